/-! a line is what the text says -/
def lnB (t w : Nat → Nat) : Nat → Nat → Bool
  | 0, _ => true
  | m + 1, k => decide (t k = w k) && lnB t w m (k + 1)
def f_L_isLine (T w : TX) : Bool := decide (T.2 = w.2) && lnB T.1 w.1 w.2 0
theorem lnB_t {t w : Nat → Nat} : ∀ m k, (∀ j, k ≤ j → j < k + m → t j = w j) → lnB t w m k = true := by
  intro m
  induction m with
  | zero => intro k _; rfl
  | succ m ih =>
    intro k h
    show (decide (t k = w k) && lnB t w m (k + 1)) = true
    rw [decide_eq_true (h k (Nat.le_refl _) (by omega)), ih (k + 1) (fun j h1 h2 => h j (by omega) (by omega))]
    rfl
theorem line_t {T w : TX} (h : TE T w) : f_L_isLine T w = true := by
  unfold f_L_isLine
  rw [decide_eq_true h.1, lnB_t w.2 0 (fun j _ hj => h.2 j (by rw [h.1]; omega))]
  rfl
set_option maxRecDepth 20000 in
theorem ggL_isLine_J0_length_8abf5 : GoodIn wsL_isLine wsJ0_length_8abf5 := goodIn_r _ [5, 6, 7, 8, 9, 4, 10, 11, 12, 86, 87, 88, 89] (by decide +kernel) (by decide +kernel)
set_option maxRecDepth 20000 in
theorem gL_isLine_J0_length_8abf5 : GoodIn wsL_isLine (wsV RL 206 RJ0 yJ0_length_8abf5 wsJ0_length_8abf5) := goodIn_app (goodIn_r _ [1, 2, 3, 4] (by decide +kernel) (by decide +kernel)) ggL_isLine_J0_length_8abf5
set_option maxRecDepth 20000 in
theorem ggL_isLine_X7_outputAt : GoodIn wsL_isLine wsX7_outputAt := goodIn_ca (goodIn_r _ [17, 18, 19, 20, 21, 22, 23, 24, 25, 26, 27, 28, 29, 30, 31, 32, 33, 34, 35, 36, 37, 38, 39, 40, 41, 42, 43, 44, 45, 46, 47, 48, 4, 49, 50, 51, 52, 53, 54, 55, 56, 57, 58, 59, 60, 61, 62, 63, 64, 90, 91, 92, 93, 94, 95, 96, 97, 98, 99, 100, 101, 102, 103] (by decide +kernel) (by decide +kernel)) (goodIn_sub (fun _ h => List.mem_cons_of_mem _ (List.mem_append_right _ h)) (by decide +kernel))
set_option maxRecDepth 20000 in
theorem gL_isLine_X7_outputAt : GoodIn wsL_isLine (wsV RL 210 RX7 yX7_outputAt wsX7_outputAt) := goodIn_app (goodIn_r _ [13, 14, 15, 16] (by decide +kernel) (by decide +kernel)) ggL_isLine_X7_outputAt
set_option maxRecDepth 20000 in
theorem ggL_isLine_J0_charAt_5068e : GoodIn wsL_isLine wsJ0_charAt_5068e := goodIn_r _ [68, 6, 69, 70, 71, 4, 72, 11, 12, 73, 74, 75, 76, 77, 48, 49, 50, 51, 52, 53, 54, 78, 79, 57, 80, 81, 82, 83, 62, 63, 64, 84, 85, 56, 58, 59, 60, 61, 86, 87, 88, 89] (by decide +kernel) (by decide +kernel)
set_option maxRecDepth 20000 in
theorem gL_isLine_J0_charAt_5068e : GoodIn wsL_isLine (wsV RL 214 RJ0 yJ0_charAt_5068e wsJ0_charAt_5068e) := goodIn_app (goodIn_r _ [65, 66, 67, 4] (by decide +kernel) (by decide +kernel)) ggL_isLine_J0_charAt_5068e
theorem dL_isLine_0 : decode cL_isLine 0 = .ok (.iload_n 1, 1) := by decide +kernel
theorem dL_isLine_1 : decode cL_isLine 1 = .ok (.aload_n 2, 1) := by decide +kernel
theorem dL_isLine_2 : decode cL_isLine 2 = .ok (.invokevirtual 206, 3) := by decide +kernel
theorem dL_isLine_5 : decode cL_isLine 5 = .ok (.if_icmp .ne 7, 3) := by decide +kernel
theorem dL_isLine_8 : decode cL_isLine 8 = .ok (.iconst 1, 1) := by decide +kernel
theorem dL_isLine_9 : decode cL_isLine 9 = .ok (.goto 4, 3) := by decide +kernel
theorem dL_isLine_12 : decode cL_isLine 12 = .ok (.iconst 0, 1) := by decide +kernel
theorem dL_isLine_13 : decode cL_isLine 13 = .ok (.istore_n 3, 1) := by decide +kernel
theorem dL_isLine_14 : decode cL_isLine 14 = .ok (.iconst 0, 1) := by decide +kernel
theorem dL_isLine_15 : decode cL_isLine 15 = .ok (.istore 4, 2) := by decide +kernel
theorem dL_isLine_17 : decode cL_isLine 17 = .ok (.iload 4, 2) := by decide +kernel
theorem dL_isLine_19 : decode cL_isLine 19 = .ok (.aload_n 2, 1) := by decide +kernel
theorem dL_isLine_20 : decode cL_isLine 20 = .ok (.invokevirtual 206, 3) := by decide +kernel
theorem dL_isLine_23 : decode cL_isLine 23 = .ok (.if_icmp .ge 34, 3) := by decide +kernel
theorem dL_isLine_26 : decode cL_isLine 26 = .ok (.iload_n 3, 1) := by decide +kernel
theorem dL_isLine_27 : decode cL_isLine 27 = .ok (.ifCond .eq 30, 3) := by decide +kernel
theorem dL_isLine_30 : decode cL_isLine 30 = .ok (.aload_n 0, 1) := by decide +kernel
theorem dL_isLine_31 : decode cL_isLine 31 = .ok (.iload 4, 2) := by decide +kernel
theorem dL_isLine_33 : decode cL_isLine 33 = .ok (.invokevirtual 210, 3) := by decide +kernel
theorem dL_isLine_36 : decode cL_isLine 36 = .ok (.aload_n 2, 1) := by decide +kernel
theorem dL_isLine_37 : decode cL_isLine 37 = .ok (.iload 4, 2) := by decide +kernel
theorem dL_isLine_39 : decode cL_isLine 39 = .ok (.invokevirtual 214, 3) := by decide +kernel
theorem dL_isLine_42 : decode cL_isLine 42 = .ok (.if_icmp .ne 7, 3) := by decide +kernel
theorem dL_isLine_45 : decode cL_isLine 45 = .ok (.iconst 1, 1) := by decide +kernel
theorem dL_isLine_46 : decode cL_isLine 46 = .ok (.goto 4, 3) := by decide +kernel
theorem dL_isLine_49 : decode cL_isLine 49 = .ok (.iconst 0, 1) := by decide +kernel
theorem dL_isLine_50 : decode cL_isLine 50 = .ok (.istore_n 3, 1) := by decide +kernel
theorem dL_isLine_51 : decode cL_isLine 51 = .ok (.iinc 4 1, 3) := by decide +kernel
theorem dL_isLine_54 : decode cL_isLine 54 = .ok (.goto (-37), 3) := by decide +kernel
theorem dL_isLine_57 : decode cL_isLine 57 = .ok (.iload_n 3, 1) := by decide +kernel
theorem dL_isLine_58 : decode cL_isLine 58 = .ok (.ireturn, 1) := by decide +kernel
set_option maxHeartbeats 4000000 in
set_option maxRecDepth 100000 in
theorem c_L_isLine (l : Launch) (D : va_G) (C : Nat → ClassId) (ev u : Nat → Nat) (K : CT) (T w : TX) (y : Nat × Nat × (Nat → Int32)) (hy : TF w y.2.2) (hl9 : l.stackTraces = false) (hI : GI (kG K)) (hFe : FerOK (kG K)) : KMo l yL_isLine wsL_isLine ({ frames := 7, cells := 35, slots := 210, locals := 130 } : Room) [.ref (u 0), .int (nI T.2), .ref y.1] D C ev u K T T [tx C y w] (some (.int (bI (f_L_isLine T w)))) 35 210 := by
  intro x sz hF
  refine Met.ofW (cc := cL_isLine) (maxL := 5) (ret := some .boolean) (by decide) rfl ?_
  intro p e s m args below meth c s₁ B hml hv
  obtain ⟨⟨⟨rfl, hsz, hP, hK, hD0, hE, hR, hX, hT9, hV9⟩, hDV⟩, hN, hC⟩ := hv
  have hx := B.exec
  have hb := B.bytes
  have hr := B.returns
  have hts := atoms_spec (ws := wsL_isLine) B.pre
  have hown : s.vm.findClass RL = some m.cls := findClass_of_methodNamed B.named
  have hlocks := B.notSynchronized
  subst hsz
  have hD := hD0.self (sz := s.heap.size)
  generalize hAe : va_A (wj (kW C ev u K x :: [tx C y w])) s.heap.size = A at hD hX hV9 hDV ⊢
  have hA : ∀ q : Nat, s.heap.size ≤ q → A q := fun q h => by rw [← hAe]; exact Or.inr h
  have hS : va_S A s.heap s.heap [] := va_S.rf
  obtain ⟨⟨hV, hB, hMV, hMB, hAL, hEk, hEa, hTX, hXZ⟩, hCS, hSF⟩ := id hX
  obtain ⟨y1, y2, y3, y4⟩ := id hy
  have hT34 : T.2 ≤ 34 := hF.2.2.1
  have hT128 : ∀ j, T.1 j < 128 := hF.2.2.2.2.2.2.2
  have hl := lv_entry ([.ref (u 0), .int (nI T.2), .ref y.1]) (n := 5) (Nat.le_of_ble_eq_true rfl)
  rw [lg_entry_eq]
  generalize (lg_sl ([.ref (u 0), .int (nI T.2), .ref y.1]) ++ List.replicate (5 - (lg_sl ([.ref (u 0), .int (nI T.2), .ref y.1])).length) Slot.unset).toArray = ls at hl ⊢
  have hl : lv_has ls 5 [(0, .ref (u 0)), (1, .int (nI T.2)), (2, .ref y.1)] := hl
  obtain ⟨z, hz⟩ : ∃ z, z = f_L_isLine T w := ⟨_, rfl⟩
  rw [← hz]
  -- the loop
  have key : ∀ (r k : Nat) (b : Bool) (x : KX) (H : Heap) (locs : List Loc) (cells slots : Nat) (ls : Array Slot), k + r = w.2 → (b = true → T.2 = w.2) → z = (b && lnB T.1 w.1 r k) → lv_has ls 5 [(4, .int (nI k)), (3, .int (bI b)), (0, .ref (u 0)), (1, .int (nI T.2)), (2, .ref y.1)] → kF T x → cells + r ≤ 35 → slots + r * 6 ≤ 210 → va_P D vwCl (wj (kW C ev u K x :: [tx C y w])) H → va_D A (wj (kW C ev u K x :: [tx C y w])) → va_S A s.heap H locs → W p l e ({ frames := 7, cells := 35, slots := 210, locals := 130 } : Room) s m ([.ref (u 0), .int (nI T.2), .ref y.1] : List Value).toArray below meth c H locs cells slots (MQ below (eO (fun _ : KX => some (.int (bI z))) D (kF T) (fun x => wj (kW C ev u K x :: [tx C y w])) A) ([.ref (u 0), .int (nI T.2), .ref y.1] : List Value).toArray s 35 210 A) (F0 m 17 ls []) := by
    intro r
    induction r with
    | zero =>
      intro k b x H locs cells slots ls hk hbT hz hl hF hc hs hP hD hS
      have hST : STR y.1 y.2.1 w.2 y.2.2 (fun _ => False) s H := STR_of (q := 0) (q' := 1) hK (wj_P (cs := [tx C y w]) hP [1] rfl) rfl rfl hTX (fun h => h) (fun h => h)
      refine lv_iload hx hb dL_isLine_17 (lv_at hl 0 rfl) ?_
      refine lv_aload_n hx hb dL_isLine_19 rfl (lv_at hl 4 rfl) ?_
      refine callRo (va_runV (As := []) (rest := [.int (nI k)]) ⟨hx, hb, hml, hown, hts⟩ (cs_J0_length_8abf5 l D C ev y.1 y.2.1 w.2 y.2.2 (by omega)) (cwV 0 hts gL_isLine_J0_length_8abf5 rfl rfl rfl (by decide +kernel) ⟨Nat.le_of_ble_eq_true rfl, Nat.le_of_ble_eq_true rfl⟩) (roS_vH (hP.sub (ws' := ([] : va_W)) [] rfl) hK hE hR hX hST hS (STR_recvH hST)) rfl rfl hl.1 rfl (lv_room (Nat.le_of_ble_eq_true rfl)) dL_isLine_20 ⟨show _ ≤ 35 from by omega, show _ ≤ 210 from by omega⟩) ?_
      refine lv_icmp_ge (tgt := 57) hx hb dL_isLine_23 (by decide) (fun _ => ?_) (fun c_23 => absurd (by rw [ile, nI_toInt (by omega), nI_toInt (by omega)]; omega) c_23)
      refine lv_iload_n hx hb dL_isLine_57 rfl (lv_at hl 1 rfl) ?_
      exact ko_retB hx hb hr hF hP hD hS (by rw [hz]; exact Bool.and_true b) (by omega) (by omega) dL_isLine_58 hlocks
    | succ r ih =>
      intro k b x H locs cells slots ls hk hbT hz hl hF hc hs hP hD hS
      have hST : STR y.1 y.2.1 w.2 y.2.2 (fun _ => False) s H := STR_of (q := 0) (q' := 1) hK (wj_P (cs := [tx C y w]) hP [1] rfl) rfl rfl hTX (fun h => h) (fun h => h)
      refine lv_iload hx hb dL_isLine_17 (lv_at hl 0 rfl) ?_
      refine lv_aload_n hx hb dL_isLine_19 rfl (lv_at hl 4 rfl) ?_
      refine callRo (va_runV (As := []) (rest := [.int (nI k)]) ⟨hx, hb, hml, hown, hts⟩ (cs_J0_length_8abf5 l D C ev y.1 y.2.1 w.2 y.2.2 (by omega)) (cwV 0 hts gL_isLine_J0_length_8abf5 rfl rfl rfl (by decide +kernel) ⟨Nat.le_of_ble_eq_true rfl, Nat.le_of_ble_eq_true rfl⟩) (roS_vH (hP.sub (ws' := ([] : va_W)) [] rfl) hK hE hR hX hST hS (STR_recvH hST)) rfl rfl hl.1 rfl (lv_room (Nat.le_of_ble_eq_true rfl)) dL_isLine_20 ⟨show _ ≤ 35 from by omega, show _ ≤ 210 from by omega⟩) ?_
      refine lv_icmp_ge (tgt := 57) hx hb dL_isLine_23 (by decide) (fun c_23 => absurd c_23 (by rw [ile, nI_toInt (by omega), nI_toInt (by omega)]; omega)) (fun _ => ?_)
      refine lv_iload_n hx hb dL_isLine_26 rfl (lv_at hl 1 rfl) ?_
      refine bif_eq (tgt := 57) hx hb dL_isLine_27 (by decide) (fun c_27 => ?_) (fun c_27 => ?_)
      · refine lv_iload_n hx hb dL_isLine_57 rfl (lv_at hl 1 rfl) ?_
        exact ko_retB hx hb hr hF hP hD hS (by rw [hz, c_27]; rfl) (by omega) (by omega) dL_isLine_58 hlocks
      · have hTw := hbT c_27
        refine lv_aload_n hx hb dL_isLine_30 rfl (lv_at hl 2 rfl) ?_
        refine lv_iload hx hb dL_isLine_31 (lv_at hl 0 rfl) ?_
        refine callK (va_runV (As := [.int (nI k)]) (rest := []) ⟨hx, hb, hml, hown, hts⟩ (k_outputAt (l := l) (D := D) (C := C) (ev := ev) (u := u) (T := T) hl9 hI (i := k) (by omega) x _ hF) (cwV 1 hts gL_isLine_X7_outputAt rfl rfl rfl (by decide +kernel) ⟨Nat.le_of_ble_eq_true rfl, Nat.le_of_ble_eq_true rfl⟩) (hloP_v (kP hP) hK hE (kD hD) hR hX hT9 hV9 hDV hN hC hS (kFr hD hS hA) (kRc hK hP)) rfl rfl hl.1 rfl (lv_room (Nat.le_of_ble_eq_true rfl)) dL_isLine_33 ⟨show _ ≤ 35 from by omega, show _ ≤ 210 from by omega⟩) hP hD hS hA (fun x H locs hF hP hD hS => ?_)
        have hST : STR y.1 y.2.1 w.2 y.2.2 (fun _ => False) s H := STR_of (q := 0) (q' := 1) hK (wj_P (cs := [tx C y w]) hP [1] rfl) rfl rfl hTX (fun h => h) (fun h => h)
        refine lv_aload_n hx hb dL_isLine_36 rfl (lv_at hl 4 rfl) ?_
        refine lv_iload hx hb dL_isLine_37 (lv_at hl 0 rfl) ?_
        refine callRo (va_runV (As := [.int (nI k)]) (rest := [.int (nI (T.1 k))]) ⟨hx, hb, hml, hown, hts⟩ (cs_J0_charAt_5068e l D C ev y.1 y.2.1 w.2 y.2.2 k (by omega) (by omega)) (cwV 1 hts gL_isLine_J0_charAt_5068e rfl rfl rfl (by decide +kernel) ⟨Nat.le_of_ble_eq_true rfl, Nat.le_of_ble_eq_true rfl⟩) (roS_vH (hP.sub (ws' := ([] : va_W)) [] rfl) hK hE hR hX hST hS (STR_recvH hST)) rfl rfl hl.1 rfl (lv_room (Nat.le_of_ble_eq_true rfl)) dL_isLine_39 ⟨show _ ≤ 35 from by omega, show _ ≤ 210 from by omega⟩) ?_
        refine topI (y := nI (w.1 k)) (by rw [y1 k (by omega)]; exact ch_v (y4 k)) ?_
        have fin : ∀ (b' : Bool) (ls : Array Slot), b' = decide (T.1 k = w.1 k) → lv_has ls 5 [(4, .int (nI k)), (3, .int (bI b)), (0, .ref (u 0)), (1, .int (nI T.2)), (2, .ref y.1)] → W p l e ({ frames := 7, cells := 35, slots := 210, locals := 130 } : Room) s m ([.ref (u 0), .int (nI T.2), .ref y.1] : List Value).toArray below meth c H locs (cells + 1) (slots + 6) (MQ below (eO (fun _ : KX => some (.int (bI z))) D (kF T) (fun x => wj (kW C ev u K x :: [tx C y w])) A) ([.ref (u 0), .int (nI T.2), .ref y.1] : List Value).toArray s 35 210 A) (F0 m 50 ls [.int (bI b')]) := by
          intro b' ls hb' hl
          refine lv_istore_n (lv' := [(3, .int (bI b')), (4, .int (nI k)), (0, .ref (u 0)), (1, .int (nI T.2)), (2, .ref y.1)]) hx hb dL_isLine_50 rfl hl (by decide) rfl (fun ls hl => ?_)
          refine lv_iinc (v := (nI (k + 1))) (lv' := [(4, .int (nI (k + 1))), (3, .int (bI b')), (0, .ref (u 0)), (1, .int (nI T.2)), (2, .ref y.1)]) hx hb dL_isLine_51 hl (k := 1) rfl (by exact nI_1 _) (by decide) rfl (fun ls hl => ?_)
          refine lv_goto (tgt := 17) hx hb dL_isLine_54 (by decide) ?_
          refine ih (k + 1) b' x H locs _ _ ls (by omega) (fun _ => hTw) ?_ hl hF (by omega) (by omega) hP hD hS
          rw [hz, c_27, Bool.true_and, hb']
          rfl
        refine lv_icmp_ne (tgt := 49) hx hb dL_isLine_42 (by decide) (fun c_42 => ?_) (fun c_42 => ?_)
        · refine lv_iconst (v := 0) hx hb dL_isLine_49 (by decide) ?_
          refine fin false ls ?_ hl
          rw [decide_eq_false (fun h => c_42 (congrArg nI h))]
        · refine lv_iconst (v := 1) hx hb dL_isLine_45 (by decide) ?_
          refine lv_goto (tgt := 50) hx hb dL_isLine_46 (by decide) ?_
          refine fin true ls ?_ hl
          have h1 := hT128 k
          have h2 := y4 k
          rw [decide_eq_true ((nI_eq (by omega) (by omega)).mp c_42)]
  have hST : STR y.1 y.2.1 w.2 y.2.2 (fun _ => False) s s.heap := STR_of (q := 0) (q' := 1) hK (wj_P (cs := [tx C y w]) hP [1] rfl) rfl rfl hTX (fun h => h) (fun h => h)
  refine lv_iload_n hx hb dL_isLine_0 rfl (lv_at hl 1 rfl) ?_
  refine lv_aload_n hx hb dL_isLine_1 rfl (lv_at hl 2 rfl) ?_
  refine callRo (va_runV (As := []) (rest := [.int (nI T.2)]) ⟨hx, hb, hml, hown, hts⟩ (cs_J0_length_8abf5 l D C ev y.1 y.2.1 w.2 y.2.2 (by omega)) (cwV 0 hts gL_isLine_J0_length_8abf5 rfl rfl rfl (by decide +kernel) ⟨Nat.le_of_ble_eq_true rfl, Nat.le_of_ble_eq_true rfl⟩) (roS_vH (hP.sub (ws' := ([] : va_W)) [] rfl) hK hE hR hX hST hS (STR_recvH hST)) rfl rfl hl.1 rfl (lv_room (Nat.le_of_ble_eq_true rfl)) dL_isLine_2 ⟨show _ ≤ 35 from by omega, show _ ≤ 210 from by omega⟩) ?_
  have go : ∀ (b : Bool) (ls : Array Slot), b = decide (T.2 = w.2) → lv_has ls 5 [(0, .ref (u 0)), (1, .int (nI T.2)), (2, .ref y.1)] → W p l e ({ frames := 7, cells := 35, slots := 210, locals := 130 } : Room) s m ([.ref (u 0), .int (nI T.2), .ref y.1] : List Value).toArray below meth c s.heap [] 0 0 (MQ below (eO (fun _ : KX => some (.int (bI z))) D (kF T) (fun x => wj (kW C ev u K x :: [tx C y w])) A) ([.ref (u 0), .int (nI T.2), .ref y.1] : List Value).toArray s 35 210 A) (F0 m 13 ls [.int (bI b)]) := by
    intro b ls hb' hl
    refine lv_istore_n (lv' := [(3, .int (bI b)), (0, .ref (u 0)), (1, .int (nI T.2)), (2, .ref y.1)]) hx hb dL_isLine_13 rfl hl (by decide) rfl (fun ls hl => ?_)
    refine lv_iconst (v := 0) hx hb dL_isLine_14 (by decide) ?_
    refine lv_istore (lv' := [(4, .int (nI 0)), (3, .int (bI b)), (0, .ref (u 0)), (1, .int (nI T.2)), (2, .ref y.1)]) hx hb dL_isLine_15 hl (by decide) rfl (fun ls hl => ?_)
    refine key w.2 0 b x s.heap [] 0 0 ls (Nat.zero_add _) (fun h => by rw [hb'] at h; exact of_decide_eq_true h) (by rw [hz, hb']; rfl) hl hF (by omega) (by omega) hP hD hS
  refine lv_icmp_ne (tgt := 12) hx hb dL_isLine_5 (by decide) (fun c_5 => ?_) (fun c_5 => ?_)
  · refine lv_iconst (v := 0) hx hb dL_isLine_12 (by decide) ?_
    exact go false ls (by rw [decide_eq_false (fun h => c_5 (congrArg nI h))]) hl
  · refine lv_iconst (v := 1) hx hb dL_isLine_8 (by decide) ?_
    refine lv_goto (tgt := 13) hx hb dL_isLine_9 (by decide) ?_
    exact go true ls (by rw [decide_eq_true ((nI_eq (by omega) (by omega)).mp c_5)]) hl
