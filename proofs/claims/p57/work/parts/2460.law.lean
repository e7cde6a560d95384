/-! the law's walk, from where the game stands to its end -/
def LY (p : Program) (l : Launch) (s : State) (m : MethodId) (c : Code) (b L : Nat) (xs : Nat → Int32) (D : va_G) (C : Nat → ClassId) (ev : Nat → Nat) (A : Nat → Prop) : Prop :=
  p.tables.exec = Jvm.exec ∧ c.code = code ∧ c.maxLocals = 6 ∧ s.vm.findClass RL = some m.cls ∧ (∀ w ∈ wsL_law, w.before #[Value.ref b] s = true) ∧ va_K D vwCl (tyA C) s ∧ EN s ∧ RVs ev s ∧ EVs ev A s s.heap ∧ XR s ∧ XV A s s.heap ∧ DVs ev A s s.heap ∧ NCs s ∧ CLs s ∧ va_T .int b L (fun j => .int (xs j)) A s s.heap ∧ (∀ q, s.heap.size ≤ q → A q) ∧ l.stackTraces = false
section
variable {p : Program} {l : Launch} {e : Env} {R : Room} {s : State} {m : MethodId} {args : Array Value} {below : List Frame} {meth : Method} {c : Code} {H : Heap} {locs : List Loc} {cells slots mc ms : Nat} {Q : State → Prop} {pc : Nat} {ls : Array Slot} {rest st0 : List Value} {A : Nat → Prop} {D : va_G} {C : Nat → ClassId} {ev u : Nat → Nat} {K : CT} {v : Option Value} {x : KX} {owns : List va_W}
/-- a question after which some text or other stands -/
theorem callKe {a : Array Value} (hr : va_Run p l e R s m args below meth c H locs cells slots mc ms (F0 m pc ls st0) rest (eO (fun _ : KX => v) D (fun x => ∃ T9, kF T9 x) (kW C ev u K) (va_A (kW C ev u K x) H.size) a) (va_A (kW C ev u K x) H.size))
    (hP : va_P D vwCl (wj (kW C ev u K x :: owns)) H) (hD : va_D A (wj (kW C ev u K x :: owns))) (hS : va_S A s.heap H locs) (hA : ∀ q, s.heap.size ≤ q → A q)
    (kk : ∀ (x : KX) (H1 : Heap) (locs1 : List Loc), (∃ T9, kF T9 x) → va_P D vwCl (wj (kW C ev u K x :: owns)) H1 → va_D A (wj (kW C ev u K x :: owns)) → va_S A s.heap H1 locs1 → W p l e R s m args below meth c H1 locs1 (cells + mc) (slots + ms) Q (F0 m (pc + 3) ls (v.toList ++ rest))) : W p l e R s m args below meth c H locs cells slots Q (F0 m pc ls st0) :=
  callE hr hS (kFr hD hS hA) (fun x1 H1 locs1 hF1 hPn hDn hk hS1 => kk x1 H1 locs1 hF1
    (jb (bs := kW C ev u K x :: owns) (cs := [kW C ev u K x]) (rs := owns) (cs' := [kW C ev u K x1]) (bs' := kW C ev u K x1 :: owns) hP hD (List.Perm.refl _) (List.Perm.refl _) hk hPn)
    (jbD (bs := kW C ev u K x :: owns) (cs := [kW C ev u K x]) (rs := owns) (cs' := [kW C ev u K x1]) (bs' := kW C ev u K x1 :: owns) hP hD (List.Perm.refl _) (List.Perm.refl _) (kFr hD hS hA) hDn) hS1)
/-- a call after which another game stands -/
theorem callKg {α : Type} {vv : α → Option Value} {F : α → Prop} {g : α → CT} {y : α → KX} {a : Array Value} (hr : va_Run p l e R s m args below meth c H locs cells slots mc ms (F0 m pc ls st0) rest (eO vv D F (fun q => kW C ev u (g q) (y q)) (va_A (kW C ev u K x) H.size) a) (va_A (kW C ev u K x) H.size))
    (hP : va_P D vwCl (wj (kW C ev u K x :: owns)) H) (hD : va_D A (wj (kW C ev u K x :: owns))) (hS : va_S A s.heap H locs) (hA : ∀ q, s.heap.size ≤ q → A q)
    (kk : ∀ (q : α) (H1 : Heap) (locs1 : List Loc), F q → va_P D vwCl (wj (kW C ev u (g q) (y q) :: owns)) H1 → va_D A (wj (kW C ev u (g q) (y q) :: owns)) → va_S A s.heap H1 locs1 → W p l e R s m args below meth c H1 locs1 (cells + mc) (slots + ms) Q (F0 m (pc + 3) ls ((vv q).toList ++ rest))) : W p l e R s m args below meth c H locs cells slots Q (F0 m pc ls st0) :=
  callE hr hS (kFr hD hS hA) (fun q H1 locs1 hF1 hPn hDn hk hS1 => kk q H1 locs1 hF1
    (jb (bs := kW C ev u K x :: owns) (cs := [kW C ev u K x]) (rs := owns) (cs' := [kW C ev u (g q) (y q)]) (bs' := kW C ev u (g q) (y q) :: owns) hP hD (List.Perm.refl _) (List.Perm.refl _) hk hPn)
    (jbD (bs := kW C ev u K x :: owns) (cs := [kW C ev u K x]) (rs := owns) (cs' := [kW C ev u (g q) (y q)]) (bs' := kW C ev u (g q) (y q) :: owns) hP hD (List.Perm.refl _) (List.Perm.refl _) (kFr hD hS hA) hDn) hS1)
end
section
variable {p : Program} {l : Launch} {e : Env} {s : State} {m : MethodId} {below : List Frame} {meth : Method} {c : Code} {b L : Nat} {xs : Nat → Int32} {D : va_G} {C : Nat → ClassId} {ev u : Nat → Nat} {A : Nat → Prop} {Q9 : State → Prop}
abbrev L4 (u : Nat → Nat) (b k : Nat) (w : Int32) : List (Nat × Value) := [(3, .int (nI k)), (2, .int w), (1, .ref (u 0)), (0, .ref b)]
set_option maxHeartbeats 4000000 in
set_option maxRecDepth 100000 in
/-- the fourteen turns -/
theorem law_turns (X : LY p l s m c b L xs D C ev A) (hL : L ≤ 2048) (hret : ∀ (H : Heap) (locs : List Loc) (cells slots : Nat) (ls : Array Slot), va_S A s.heap H locs → cells ≤ 832917 → slots ≤ 6592057 → W p l e room_1 s m #[Value.ref b] below meth c H locs cells slots Q9 (F0 m 130 ls [.int 1])) :
    ∀ (r k : Nat) (K : CT) (T : TX) (x : KX) (H : Heap) (locs : List Loc) (cells slots : Nat) (ls : Array Slot), k + r = 14 → DI K → kF T x → cells + r * 40400 ≤ 832917 → slots + r * 280900 ≤ 6592057 → va_P D vwCl (wj [kW C ev u K x]) H → va_D A (wj [kW C ev u K x]) → va_S A s.heap H locs → lv_has ls 6 (L4 u b k (gIni (kG K))) → W p l e room_1 s m #[Value.ref b] below meth c H locs cells slots Q9 (F0 m 44 ls []) := by
  obtain ⟨hx, hb, hml, hown, hts, hK, hE, hR, hX, hT9, hV9, hDV, hN, hC, hSC, hA, hl9⟩ := X
  intro r
  induction r with
  | zero =>
    intro k K T x H locs cells slots ls hk hd hF hc hs hP hD hS hl
    obtain rfl : k = 14 := by omega
    refine lv_iload_n hx hb dL_law_44 rfl (lv_at hl 0 rfl) ?_
    refine lv_bipush (v := 14) hx hb dL_law_45 (by decide +kernel) ?_
    refine lv_icmp_ge (tgt := 129) hx hb dL_law_47 (by decide) (fun _ => ?_) (fun q => absurd (by decide +kernel) q)
    refine lv_iconst (v := 1) hx hb dL_law_129 (by decide) ?_
    exact hret H locs cells slots ls hS (by omega) (by omega)
  | succ r ih =>
    intro k K T x H locs cells slots ls hk hd hF hc hs hP hD hS hl
    have hI := DI_I hd
    have hP4 := (GI_safe hI).2.1
    refine lv_iload_n hx hb dL_law_44 rfl (lv_at hl 0 rfl) ?_
    refine lv_bipush (v := nI 14) hx hb dL_law_45 (by decide +kernel) ?_
    refine lv_icmp_ge (tgt := 129) hx hb dL_law_47 (by decide) (fun q => absurd q (nI_ge (by omega) (by omega))) (fun _ => ?_)
    refine lv_aload_n hx hb dL_law_50 rfl (lv_at hl 2 rfl) ?_
    refine callK (va_runV (As := []) (rest := []) ⟨hx, hb, hml, hown, hts⟩ (k_playerCount (l := l) (D := D) (C := C) (ev := ev) (u := u) (T := T) (K := K) hl9 hI x _ hF) (cwV 0 hts gL_law_X7_playerCount rfl rfl rfl (by decide +kernel) ⟨Nat.le_of_ble_eq_true rfl, Nat.le_of_ble_eq_true rfl⟩) (hloP_v (kP hP) hK hE (kD hD) hR hX hT9 hV9 hDV hN hC hS (kFr hD hS hA) (kRc hK hP)) rfl rfl hl.1 rfl (lv_room (Nat.le_of_ble_eq_true rfl)) dL_law_51 ⟨show _ ≤ 832917 from by omega, show _ ≤ 6592057 from by omega⟩) hP hD hS hA (fun x H locs hF hP hD hS => ?_)
    refine lv_istore (lv' := (4, .int (nI (gP (kG K)))) :: L4 u b k (gIni (kG K))) hx hb dL_law_54 hl (by decide) rfl (fun ls hl => ?_)
    refine lv_aload_n hx hb dL_law_56 rfl (lv_at hl 3 rfl) ?_
    refine lv_aload_n hx hb dL_law_57 rfl (lv_at hl 4 rfl) ?_
    refine lv_sipush (v := nI 400) hx hb dL_law_58 (by decide +kernel) ?_
    refine lv_iconst (v := nI 5) hx hb dL_law_61 (by decide +kernel) ?_
    refine lv_iload_n hx hb dL_law_62 rfl (lv_at hl 1 rfl) ?_
    refine mulN hx hb dL_law_63 ?_
    refine addN hx hb dL_law_64 ?_
    refine callKg (g := fun q : (CT × KX) × Int32 => q.1.1) (y := fun q => q.1.2) (va_runS (As := [.ref (u 0), .ref b, .int (nI (400 + 5 * k))]) (rest := []) ⟨hx, hb, hml, hown, hts⟩ (c_L_any l D C ev u K T b L xs (400 + 5 * k) (by omega) hl9 hd (by omega) x _ hF) (va_cwS 3 hts gL_law_L_any rfl rfl rfl (by decide +kernel) ⟨Nat.le_of_ble_eq_true rfl, Nat.le_of_ble_eq_true rfl⟩) (scH_s (hloP_s (kP hP) hK hE (kD hD) hR hX hT9 hV9 hDV hN hC hS (kFr hD hS hA)) hSC hS (kFr hD hS hA)) rfl rfl hl.1 rfl (lv_room (Nat.le_of_ble_eq_true rfl)) dL_law_65 ⟨show _ ≤ 832917 from by omega, show _ ≤ 6592057 from by omega⟩) hP hD hS hA (fun q H locs hq hP hD hS => ?_)
    obtain ⟨⟨K', x⟩, did⟩ := q
    obtain ⟨hd', hM, hF⟩ : DI K' ∧ MREL (kG K) (kG K') ∧ kF T x := hq
    have hP : va_P D vwCl (wj [kW C ev u K' x]) H := hP
    have hD : va_D A (wj [kW C ev u K' x]) := hD
    have hI' := DI_I hd'
    have hG' := GI_safe hI'
    have hDS := hd'.2.1
    have hFe := hd'.2.2
    have hP4' := hG'.2.1
    refine lv_istore (lv' := (5, .int did) :: (4, .int (nI (gP (kG K)))) :: L4 u b k (gIni (kG K))) hx hb dL_law_68 hl (by decide) rfl (fun ls hl => ?_)
    refine lv_iload_n hx hb dL_law_70 rfl (lv_at hl 3 rfl) ?_
    refine lv_aload_n hx hb dL_law_71 rfl (lv_at hl 4 rfl) ?_
    refine callK (va_runV (As := []) (rest := [.int (gIni (kG K))]) ⟨hx, hb, hml, hown, hts⟩ (k_playerCount (l := l) (D := D) (C := C) (ev := ev) (u := u) (T := T) (K := K') hl9 hI' x _ hF) (cwV 0 hts gL_law_X7_playerCount rfl rfl rfl (by decide +kernel) ⟨Nat.le_of_ble_eq_true rfl, Nat.le_of_ble_eq_true rfl⟩) (hloP_v (kP hP) hK hE (kD hD) hR hX hT9 hV9 hDV hN hC hS (kFr hD hS hA) (kRc hK hP)) rfl rfl hl.1 rfl (lv_room (Nat.le_of_ble_eq_true rfl)) dL_law_72 ⟨show _ ≤ 832917 from by omega, show _ ≤ 6592057 from by omega⟩) hP hD hS hA (fun x H locs hF hP hD hS => ?_)
    refine lv_iload hx hb dL_law_75 (lv_at hl 1 rfl) ?_
    -- all that is said of the game
    have J90 : ∀ (T : TX) (x : KX) (H : Heap) (locs : List Loc) (w : Int32) (cells1 slots1 : Nat), cells1 ≤ cells + 2 → slots1 ≤ slots + 12 → gIni (kG K) + w = gIni (kG K') → kF T x → va_P D vwCl (wj [kW C ev u K' x]) H → va_D A (wj [kW C ev u K' x]) → va_S A s.heap H locs → W p l e room_1 s m #[Value.ref b] below meth c H locs cells1 slots1 Q9 (F0 m 90 ls [.int w, .int (gIni (kG K))]) := by
      intro T x H locs w cells1 slots1 hc1 hs1 hw hF hP hD hS
      refine lv_iadd hx hb dL_law_90 ?_
      rw [hw]
      refine lv_istore_n (lv' := (2, .int (gIni (kG K'))) :: [(5, .int did), (4, .int (nI (gP (kG K)))), (3, .int (nI k)), (1, .ref (u 0)), (0, .ref b)]) hx hb dL_law_91 rfl hl (by decide) rfl (fun ls hl => ?_)
      refine lv_aload_n hx hb dL_law_92 rfl (lv_at hl 4 rfl) ?_
      refine callK (va_runS (As := [.ref (u 0)]) (rest := []) ⟨hx, hb, hml, hown, hts⟩ (c_L_isGraphRight l D C ev u K' T hl9 hI' hFe x _ hF) (va_cwS 1 hts gL_law_L_isGraphRight rfl rfl rfl (by decide +kernel) ⟨Nat.le_of_ble_eq_true rfl, Nat.le_of_ble_eq_true rfl⟩) (hloP_s (kP hP) hK hE (kD hD) hR hX hT9 hV9 hDV hN hC hS (kFr hD hS hA)) rfl rfl hl.1 rfl (lv_room (Nat.le_of_ble_eq_true rfl)) dL_law_93 ⟨show _ ≤ 832917 from by omega, show _ ≤ 6592057 from by omega⟩) hP hD hS hA (fun x H locs hF hP hD hS => ?_)
      rw [graph_right hI' hDS]
      refine lv_if_eq (tgt := 121) hx hb dL_law_96 (by decide) (fun q => absurd q (by decide)) (fun _ => ?_)
      refine lv_aload_n hx hb dL_law_99 rfl (lv_at hl 4 rfl) ?_
      refine callK (va_runS (As := [.ref (u 0)]) (rest := []) ⟨hx, hb, hml, hown, hts⟩ (c_L_isForestRight l D C ev u K' T hl9 hI' hFe x _ hF) (va_cwS 1 hts gL_law_L_isForestRight rfl rfl rfl (by decide +kernel) ⟨Nat.le_of_ble_eq_true rfl, Nat.le_of_ble_eq_true rfl⟩) (hloP_s (kP hP) hK hE (kD hD) hR hX hT9 hV9 hDV hN hC hS (kFr hD hS hA)) rfl rfl hl.1 rfl (lv_room (Nat.le_of_ble_eq_true rfl)) dL_law_100 ⟨show _ ≤ 832917 from by omega, show _ ≤ 6592057 from by omega⟩) hP hD hS hA (fun x H locs hF hP hD hS => ?_)
      rw [forest_right hI' hDS]
      refine lv_if_eq (tgt := 121) hx hb dL_law_103 (by decide) (fun q => absurd q (by decide)) (fun _ => ?_)
      refine lv_aload_n hx hb dL_law_106 rfl (lv_at hl 4 rfl) ?_
      refine lv_iload_n hx hb dL_law_107 rfl (lv_at hl 0 rfl) ?_
      refine callK (va_runS (As := [.ref (u 0), .int (gIni (kG K'))]) (rest := []) ⟨hx, hb, hml, hown, hts⟩ (c_L_arePlayersRight l D C ev u K' T (gIni (kG K')) hl9 hI' hFe x _ hF) (va_cwS 2 hts gL_law_L_arePlayersRight rfl rfl rfl (by decide +kernel) ⟨Nat.le_of_ble_eq_true rfl, Nat.le_of_ble_eq_true rfl⟩) (hloP_s (kP hP) hK hE (kD hD) hR hX hT9 hV9 hDV hN hC hS (kFr hD hS hA)) rfl rfl hl.1 rfl (lv_room (Nat.le_of_ble_eq_true rfl)) dL_law_108 ⟨show _ ≤ 832917 from by omega, show _ ≤ 6592057 from by omega⟩) hP hD hS hA (fun x H locs hF hP hD hS => ?_)
      rw [players_right hI']
      refine lv_if_eq (tgt := 121) hx hb dL_law_111 (by decide) (fun q => absurd q (by decide)) (fun _ => ?_)
      refine lv_aload_n hx hb dL_law_114 rfl (lv_at hl 4 rfl) ?_
      refine callKe (va_runS (As := [.ref (u 0)]) (rest := []) ⟨hx, hb, hml, hown, hts⟩ (c_L_areSitesRight l D C ev u K' T hl9 hI' hFe x _ hF) (va_cwS 1 hts gL_law_L_areSitesRight rfl rfl rfl (by decide +kernel) ⟨Nat.le_of_ble_eq_true rfl, Nat.le_of_ble_eq_true rfl⟩) (hloP_s (kP hP) hK hE (kD hD) hR hX hT9 hV9 hDV hN hC hS (kFr hD hS hA)) rfl rfl hl.1 rfl (lv_room (Nat.le_of_ble_eq_true rfl)) dL_law_115 ⟨show _ ≤ 832917 from by omega, show _ ≤ 6592057 from by omega⟩) hP hD hS hA (fun x H locs hF hP hD hS => ?_)
      obtain ⟨T9, hF⟩ := hF
      rw [sites_right hI' hDS]
      refine lv_if_ne (tgt := 123) hx hb dL_law_118 (by decide) (fun _ => ?_) (fun q => absurd (show bI true = 0 from q) (by decide))
      refine lv_iinc (v := nI (k + 1)) (lv' := (3, .int (nI (k + 1))) :: [(2, .int (gIni (kG K'))), (5, .int did), (4, .int (nI (gP (kG K)))), (1, .ref (u 0)), (0, .ref b)]) hx hb dL_law_123 hl (k := 3) rfl (by exact nI_1 _) (by decide) rfl (fun ls hl => ?_)
      refine lv_goto (tgt := 44) hx hb dL_law_126 (by decide) ?_
      exact ih (k + 1) K' T9 x H locs _ _ ls (by omega) hd' hF (by omega) (by omega) hP hD hS (lv_sub hl [0, 1, 4, 5] rfl)
    rcases hM with ⟨e1, e2⟩ | ⟨e1, e2⟩
    · refine lv_icmp_le (tgt := 89) hx hb dL_law_77 (by decide) (fun _ => ?_) (fun q => absurd (by rw [e1, ile]; exact Int.le_refl _) q)
      refine lv_iconst (v := 0) hx hb dL_law_89 (by decide) ?_
      exact J90 T x H locs 0 _ _ (by omega) (by omega) (by rw [e2, Int32.add_zero]) hF hP hD hS
    · refine lv_icmp_le (tgt := 89) hx hb dL_law_77 (by decide) (fun q => absurd q (by rw [e1, ile, nI_toInt (by omega), nI_toInt (by omega)]; omega)) (fun _ => ?_)
      refine lv_aload_n hx hb dL_law_80 rfl (lv_at hl 4 rfl) ?_
      refine lv_iload hx hb dL_law_81 (lv_at hl 1 rfl) ?_
      refine callK (va_runV (As := [.int (nI (gP (kG K)))]) (rest := [.int (gIni (kG K))]) ⟨hx, hb, hml, hown, hts⟩ (k_money (l := l) (D := D) (C := C) (ev := ev) (u := u) (T := T) (K := K') hl9 hI' (k := gP (kG K)) (by omega) x _ hF) (cwV 1 hts gL_law_X7_money rfl rfl rfl (by decide +kernel) ⟨Nat.le_of_ble_eq_true rfl, Nat.le_of_ble_eq_true rfl⟩) (hloP_v (kP hP) hK hE (kD hD) hR hX hT9 hV9 hDV hN hC hS (kFr hD hS hA) (kRc hK hP)) rfl rfl hl.1 rfl (lv_room (Nat.le_of_ble_eq_true rfl)) dL_law_83 ⟨show _ ≤ 832917 from by omega, show _ ≤ 6592057 from by omega⟩) hP hD hS hA (fun x H locs hF hP hD hS => ?_)
      refine lv_goto (tgt := 90) hx hb dL_law_86 (by decide) ?_
      exact J90 T x H locs (gMon (kG K') (gP (kG K))) _ _ (by omega) (by omega) e2.symm hF hP hD hS
set_option maxHeartbeats 4000000 in
set_option maxRecDepth 100000 in
/-- the sum of all money, then the turns -/
theorem law_sum (X : LY p l s m c b L xs D C ev A) (hL : L ≤ 2048) (hret : ∀ (H : Heap) (locs : List Loc) (cells slots : Nat) (ls : Array Slot), va_S A s.heap H locs → cells ≤ 832917 → slots ≤ 6592057 → W p l e room_1 s m #[Value.ref b] below meth c H locs cells slots Q9 (F0 m 130 ls [.int 1])) {K : CT} (hd : DI K) {T : TX} :
    ∀ (r k : Nat) (v : Int32) (x : KX) (H : Heap) (locs : List Loc) (ls : Array Slot) (cells slots : Nat), cells + r + 565600 ≤ 832917 → slots + 6 * r + 3932600 ≤ 6592057 → k + r = gP (kG K) → itF (fun p v => v + gMon (kG K) p) r k v = gIni (kG K) → kF T x → va_P D vwCl (wj [kW C ev u K x]) H → va_D A (wj [kW C ev u K x]) → va_S A s.heap H locs → lv_has ls 6 (L4 u b k v) → W p l e room_1 s m #[Value.ref b] below meth c H locs cells slots Q9 (F0 m 20 ls []) := by
  obtain ⟨hx, hb, hml, hown, hts, hK, hE, hR, hX, hT9, hV9, hDV, hN, hC, hSC, hA, hl9⟩ := id X
  have hI := DI_I hd
  have hP4 := (GI_safe hI).2.1
  intro r
  induction r with
  | zero =>
    intro k v x H locs ls cells slots hc hs hk hv hF hP hD hS hl
    have hv9 : v = gIni (kG K) := hv
    obtain rfl : k = gP (kG K) := by omega
    refine lv_iload_n hx hb dL_law_20 rfl (lv_at hl 0 rfl) ?_
    refine lv_aload_n hx hb dL_law_21 rfl (lv_at hl 2 rfl) ?_
    refine callK (va_runV (As := []) (rest := [.int (nI (gP (kG K)))]) ⟨hx, hb, hml, hown, hts⟩ (k_playerCount (l := l) (D := D) (C := C) (ev := ev) (u := u) (T := T) (K := K) hl9 hI x _ hF) (cwV 0 hts gL_law_X7_playerCount rfl rfl rfl (by decide +kernel) ⟨Nat.le_of_ble_eq_true rfl, Nat.le_of_ble_eq_true rfl⟩) (hloP_v (kP hP) hK hE (kD hD) hR hX hT9 hV9 hDV hN hC hS (kFr hD hS hA) (kRc hK hP)) rfl rfl hl.1 rfl (lv_room (Nat.le_of_ble_eq_true rfl)) dL_law_22 ⟨show _ ≤ 832917 from by omega, show _ ≤ 6592057 from by omega⟩) hP hD hS hA (fun x H locs hF hP hD hS => ?_)
    refine lv_icmp_ge (tgt := 42) hx hb dL_law_25 (by decide) (fun _ => ?_) (fun q => absurd (by rw [ile]; exact Int.le_refl _) q)
    refine lv_iconst (v := nI 0) hx hb dL_law_42 (by decide +kernel) ?_
    refine lv_istore_n (lv' := (3, .int (nI 0)) :: [(2, .int v), (1, .ref (u 0)), (0, .ref b)]) hx hb dL_law_43 rfl hl (by decide) rfl (fun ls hl => ?_)
    rw [hv9] at hl
    exact law_turns X hL hret 14 0 K T x H locs _ _ ls rfl hd hF (by omega) (by omega) hP hD hS hl
  | succ r ih =>
    intro k v x H locs ls cells slots hc hs hk hv hF hP hD hS hl
    refine lv_iload_n hx hb dL_law_20 rfl (lv_at hl 0 rfl) ?_
    refine lv_aload_n hx hb dL_law_21 rfl (lv_at hl 2 rfl) ?_
    refine callK (va_runV (As := []) (rest := [.int (nI k)]) ⟨hx, hb, hml, hown, hts⟩ (k_playerCount (l := l) (D := D) (C := C) (ev := ev) (u := u) (T := T) (K := K) hl9 hI x _ hF) (cwV 0 hts gL_law_X7_playerCount rfl rfl rfl (by decide +kernel) ⟨Nat.le_of_ble_eq_true rfl, Nat.le_of_ble_eq_true rfl⟩) (hloP_v (kP hP) hK hE (kD hD) hR hX hT9 hV9 hDV hN hC hS (kFr hD hS hA) (kRc hK hP)) rfl rfl hl.1 rfl (lv_room (Nat.le_of_ble_eq_true rfl)) dL_law_22 ⟨show _ ≤ 832917 from by omega, show _ ≤ 6592057 from by omega⟩) hP hD hS hA (fun x H locs hF hP hD hS => ?_)
    refine lv_icmp_ge (tgt := 42) hx hb dL_law_25 (by decide) (fun q => absurd q (nI_ge (by omega) (by omega))) (fun _ => ?_)
    refine lv_iload_n hx hb dL_law_28 rfl (lv_at hl 1 rfl) ?_
    refine lv_aload_n hx hb dL_law_29 rfl (lv_at hl 2 rfl) ?_
    refine lv_iload_n hx hb dL_law_30 rfl (lv_at hl 0 rfl) ?_
    refine callK (va_runV (As := [.int (nI k)]) (rest := [.int v]) ⟨hx, hb, hml, hown, hts⟩ (k_money (l := l) (D := D) (C := C) (ev := ev) (u := u) (T := T) (K := K) hl9 hI (k := k) (by omega) x _ hF) (cwV 1 hts gL_law_X7_money rfl rfl rfl (by decide +kernel) ⟨Nat.le_of_ble_eq_true rfl, Nat.le_of_ble_eq_true rfl⟩) (hloP_v (kP hP) hK hE (kD hD) hR hX hT9 hV9 hDV hN hC hS (kFr hD hS hA) (kRc hK hP)) rfl rfl hl.1 rfl (lv_room (Nat.le_of_ble_eq_true rfl)) dL_law_31 ⟨show _ ≤ 832917 from by omega, show _ ≤ 6592057 from by omega⟩) hP hD hS hA (fun x H locs hF hP hD hS => ?_)
    refine lv_iadd hx hb dL_law_34 ?_
    refine lv_istore_n (lv' := (2, .int (v + gMon (kG K) k)) :: [(3, .int (nI k)), (1, .ref (u 0)), (0, .ref b)]) hx hb dL_law_35 rfl hl (by decide) rfl (fun ls hl => ?_)
    refine lv_iinc (v := nI (k + 1)) (lv' := (3, .int (nI (k + 1))) :: [(2, .int (v + gMon (kG K) k)), (1, .ref (u 0)), (0, .ref b)]) hx hb dL_law_36 hl (k := 1) rfl (by exact nI_1 _) (by decide) rfl (fun ls hl => ?_)
    refine lv_goto (tgt := 20) hx hb dL_law_39 (by decide) ?_
    exact ih (k + 1) (v + gMon (kG K) k) x H locs ls _ _ (by omega) (by omega) (by omega) hv hF hP hD hS hl
set_option maxHeartbeats 4000000 in
set_option maxRecDepth 100000 in
/-- a game that is new: laid, summed up, turned fourteen times -/
theorem law_game (X : LY p l s m c b L xs D C ev A) (hL : L ≤ 2048) (hret : ∀ (H : Heap) (locs : List Loc) (cells slots : Nat) (ls : Array Slot), va_S A s.heap H locs → cells ≤ 832917 → slots ≤ 6592057 → W p l e room_1 s m #[Value.ref b] below meth c H locs cells slots Q9 (F0 m 130 ls [.int 1])) {K : CT} (hd : DI K) {T : TX} {x : KX} (hF : kF T x) {H : Heap} {locs : List Loc} {cells slots : Nat} {ls : Array Slot} (hc : cells + 112 + 565600 ≤ 832917) (hs : slots + 672 + 3932600 ≤ 6592057) (hP : va_P D vwCl (wj [kW C ev u K x]) H) (hD : va_D A (wj [kW C ev u K x])) (hS : va_S A s.heap H locs) (hl : lv_has ls 6 [(1, .ref (u 0)), (0, .ref b)]) : W p l e room_1 s m #[Value.ref b] below meth c H locs cells slots Q9 (F0 m 8 ls []) := by
  obtain ⟨hx, hb, hml, hown, hts, hK, hE, hR, hX, hT9, hV9, hDV, hN, hC, hSC, hA, hl9⟩ := id X
  refine lv_aload_n hx hb dL_law_8 rfl (lv_at hl 0 rfl) ?_
  refine lv_aload_n hx hb dL_law_9 rfl (lv_at hl 1 rfl) ?_
  refine callKg (g := fun q : CT × KX => q.1) (y := fun q => q.2) (va_runS (As := [.ref (u 0), .ref b]) (rest := []) ⟨hx, hb, hml, hown, hts⟩ (c_L_lay l D C ev u K T b L xs hl9 hd (by omega) x _ hF) (va_cwS 2 hts gL_law_L_lay rfl rfl rfl (by decide +kernel) ⟨Nat.le_of_ble_eq_true rfl, Nat.le_of_ble_eq_true rfl⟩) (scH_s (hloP_s (kP hP) hK hE (kD hD) hR hX hT9 hV9 hDV hN hC hS (kFr hD hS hA)) hSC hS (kFr hD hS hA)) rfl rfl hl.1 rfl (lv_room (Nat.le_of_ble_eq_true rfl)) dL_law_10 ⟨show _ ≤ 832917 from by omega, show _ ≤ 6592057 from by omega⟩) hP hD hS hA (fun q H locs hq hP hD hS => ?_)
  obtain ⟨K, x⟩ := q
  obtain ⟨hd, hF⟩ : DI K ∧ kF T x := hq
  have hP : va_P D vwCl (wj [kW C ev u K x]) H := hP
  have hD : va_D A (wj [kW C ev u K x]) := hD
  have hI := DI_I hd
  have hP4 : gP (kG K) ≤ 4 := (GI_safe hI).2.1
  refine lv_aload_n hx hb dL_law_13 rfl (lv_at hl 0 rfl) ?_
  refine callK (va_runV (As := []) (rest := []) ⟨hx, hb, hml, hown, hts⟩ (k_bankMoney (l := l) (D := D) (C := C) (ev := ev) (u := u) (T := T) (K := K) hl9 hI x _ hF) (cwV 0 hts gL_law_X7_bankMoney rfl rfl rfl (by decide +kernel) ⟨Nat.le_of_ble_eq_true rfl, Nat.le_of_ble_eq_true rfl⟩) (hloP_v (kP hP) hK hE (kD hD) hR hX hT9 hV9 hDV hN hC hS (kFr hD hS hA) (kRc hK hP)) rfl rfl hl.1 rfl (lv_room (Nat.le_of_ble_eq_true rfl)) dL_law_14 ⟨show _ ≤ 832917 from by omega, show _ ≤ 6592057 from by omega⟩) hP hD hS hA (fun x H locs hF hP hD hS => ?_)
  refine lv_istore_n (lv' := (2, .int (gBank (kG K))) :: [(1, .ref (u 0)), (0, .ref b)]) hx hb dL_law_17 rfl hl (by decide) rfl (fun ls hl => ?_)
  refine lv_iconst (v := nI 0) hx hb dL_law_18 (by decide +kernel) ?_
  refine lv_istore_n (lv' := L4 u b 0 (gBank (kG K))) hx hb dL_law_19 rfl hl (by decide) rfl (fun ls hl => ?_)
  exact law_sum X hL hret hd (gP (kG K)) 0 (gBank (kG K)) x H locs ls _ _ (by omega) (by omega) (Nat.zero_add _) (initial_it hI) hF hP hD hS hl
end
