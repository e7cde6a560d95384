/-! the new game; the law from its entry -/
def now0 (n : Nat) : Nat → Int32 := itF (fun k f => upd f (6 + k) (nI (k % 4))) n 0 (fun _ => 0)
theorem now0_lo : ∀ i, i < 8 → now0 8 (6 + i) = suits0 8 i := by decide +kernel
theorem now0_0 : now0 8 0 = 0 ∧ now0 8 1 = 0 ∧ now0 8 2 = 0 ∧ now0 8 3 = 0 ∧ now0 8 4 = 0 ∧ now0 8 5 = 0 := by decide +kernel
theorem now0_hi : ∀ k, k < 12 → now0 8 (22 + 13 * k + 0) = 0 ∧ now0 8 (22 + 13 * k + 1) = 0 ∧ now0 8 (22 + 13 * k + 4) = 0 := by decide +kernel
theorem suits0_in : ∀ i, i < 8 → 0 ≤ (suits0 8 i).toInt ∧ (suits0 8 i).toInt < 4 := by decide +kernel
theorem GSafe_0 : GSafe G0 := ⟨Nat.zero_le _, Nat.zero_le _, fun _ => (show 0 < 8 by decide), fun _ => (show 0 < 8 by decide)⟩
theorem NowOK_0 : NowOK (now0 8) := by
  obtain ⟨h0, h1, h2, h3, h4, h5⟩ := now0_0
  refine ⟨⟨?_, ?_⟩, ⟨?_, ?_⟩, fun k hk => ?_, fun k hk => ?_⟩
  · unfold mS; rw [h2]; rfl
  · unfold mS; rw [h2]; decide
  · unfold mP; rw [h1]; rfl
  · unfold mP; rw [h1]; decide
  · obtain ⟨a, b, c⟩ := now0_hi k hk
    rw [a, b]
    exact ⟨vp_of_int (by decide) (by decide), vp_of_int (by decide) (by decide)⟩
  · obtain ⟨a, b, c⟩ := now0_hi k hk
    rw [c]
    exact Or.inr (vp_of_int (by decide) (by decide))
theorem NR_0 : NR G0 (now0 8) := by
  obtain ⟨h0, h1, h2, h3, h4, h5⟩ := now0_0
  exact ⟨⟨h0, h1, h2, h3, h4, h5⟩, fun i hi => now0_lo i hi, fun p hp => absurd hp (Nat.not_lt_zero p), fun k hk => absurd hk (Nat.not_lt_zero k)⟩
theorem FerOK_0 : FerOK G0 := fun k hk => Or.inr (vp_of_int (show 0 ≤ (0 : Int32).toInt by decide) (show (0 : Int32).toInt < (4 : Nat) by decide))
theorem GI_0 : GI G0 := by
  refine ⟨⟨GSafe_0, ⟨0, by decide, rfl⟩, fun i hi => ?_, fun p hp => absurd hp (Nat.not_lt_zero p), fun k hk => absurd hk (Nat.not_lt_zero k), fun k hk => absurd hk (Nat.not_lt_zero k), fun k hk => absurd hk (Nat.not_lt_zero k)⟩, ⟨fun k hk q hq => ?_, fun k hk q hq _ => rfl, fun k hk => absurd hk (Nat.not_lt_zero k), fun q hq _ => ?_⟩, fun q hq => absurd hq (Nat.not_lt_zero q), rfl⟩
  · obtain ⟨a, b⟩ := suits0_in i hi
    exact vp_of_int a b
  · exact ⟨show -99 ≤ (0 : Int32).toInt by decide, show (0 : Int32).toInt ≤ 99 by decide⟩
  · have : ∀ q, q < 4 → f_X1_hasUsedFerry G0 q = false := by decide +kernel
    exact this q hq
theorem RR_0 : RR G0 (now0 8) := ⟨GI_0, NR_0, NowOK_0, FerOK_0⟩
theorem DI_0 : DI (Q0, G0, G0, G0, H0S, S0) := ⟨⟨now0 8, fun _ => 0, 0, RR_0, show 0 < 8 by decide, show 0 ≤ 8 by decide, rfl, fun _ => GSafe_0, fun k hk => absurd hk (Nat.not_lt_zero k)⟩, fun j hj => absurd hj (Nat.not_lt_zero j), FerOK_0⟩
theorem kF_0 {O : OS} (h : OT T0 O) : kF T0 (R0, O) := ⟨fun _ => show 0 < 8 by decide, h⟩
set_option maxHeartbeats 8000000 in
set_option maxRecDepth 100000 in
/-- from the entry, for every script of at most 260 ints, the law comes to its end with true -/
theorem whole_start {p : Program} {e : Env} {s : State} {m : MethodId} {below : List Frame} {meth : Method} {c : Code} (l : Launch) (hflags : l.flags = flags0) {b L : Nat} {xs : Nat → Int32} (hL : L ≤ 260) (C0 : lw_At p s m meth c b L xs) : W p l e room_1 s m #[Value.ref b] below meth c s.heap [] 0 0 (lw_Z below #[Value.ref b] s) (entryFrame m ([Value.ref b] : List Value).toArray 6) := by
  obtain ⟨hx, hb, hr, hml, hown, hts0, hXs, hbl, hlocks, hgv⟩ := id C0
  have hs : ∀ w ∈ nwL, w.before #[Value.ref b] s = true := flat_of_before _ hgv
  obtain ⟨D, hD0⟩ := prem_D hts0
  obtain ⟨C, hC0⟩ := prem_C hts0
  obtain ⟨ev, hR9, hX9, hDV9⟩ := prem_ev hts0 hs
  have hK : va_K D vwCl (tyA C) s := ⟨hD0, hC0⟩
  have hE := prem_EN hts0
  have hT := prem_XR hts0 hs
  have hV := prem_XV hts0 hs
  have hN := prem_NC hs
  have hCL := prem_CL hts0
  have hAO := prem_AO hts0
  have hts : ∀ w ∈ wsL_law, w.before #[Value.ref b] s = true := fun w h => lw_tb2_ok hts0 w (wsL_law_in w h)
  have hl9 : l.stackTraces = false := by
    unfold Launch.stackTraces
    rw [hflags]
    decide
  have hret : ∀ (H : Heap) (locs : List Loc) (cells slots : Nat) (ls : Array Slot), va_S (AH s) s.heap H locs → cells ≤ 832917 → slots ≤ 6592057 → W p l e room_1 s m #[Value.ref b] below meth c H locs cells slots (lw_Z below #[Value.ref b] s) (F0 m 130 ls [.int 1]) := fun H locs cells slots ls hS h1 h2 =>
    W.widen h1 h2 (va_forget (fun q hq => hS.2.2 q hq) (W.base (lw_ret (Drawn.sameBut.refl s.drawn lw_cs) hx hb hr hlocks dL_law_130)))
  obtain ⟨A, hAe⟩ : ∃ A, A = AH s := ⟨_, rfl⟩
  rw [← hAe] at hX9 hDV9 hV hret
  have hA : ∀ q : Nat, s.heap.size ≤ q → A q := fun q h => by rw [hAe]; exact h
  have hbA : ¬ A b := by rw [hAe]; exact Nat.not_le.mpr hbl
  have hSC : va_T .int b L (fun j => .int (xs j)) A s s.heap := by
    obtain ⟨scr, h1, h2, h3, h4, h5⟩ := hXs
    exact ⟨scr, h1, h2, h3, Nat.le_of_eq h4.symm, by rw [h4], h5, hbA⟩
  have X : LY p l s m c b L xs D C ev A := ⟨hx, hb, hml, hown, hts, hK, hE, hR9, hX9, hT, hV, hDV9, hN, hCL, hSC, hA, hl9⟩
  have hin7 : ∀ w ∈ u_ws RX7 TX7 10, w ∈ wsL_law := inlX7
  have hS : va_S A s.heap s.heap [] := va_S.rf
  have hP : va_P D vwCl [] s.heap := fun k q h => by simp at h
  have hD : va_D A [] := ⟨fun i j p q h => by simp at h, fun k q h => by simp at h⟩
  have hl := lv_entry ([.ref b]) (n := 6) (Nat.le_of_ble_eq_true rfl)
  rw [lg_entry_eq]
  generalize (lg_sl ([.ref b]) ++ List.replicate (6 - (lg_sl ([.ref b])).length) Slot.unset).toArray = ls at hl ⊢
  have hl : lv_has ls 6 [(0, .ref b)] := hl
  refine va_new (C := RX7) (T := TX7) (N := 10) (ci := 8) (fs := bX7) hx hb hts hin7 tyX7 tyX7_ok hown (hts (.classLink RL 16 RX7) (by decide +kernel)) (hts (.instantiable RX7 10) (by decide +kernel)) (hts (.initialized RX7) (by decide +kernel)) hK hP hD hS hA rfl (by decide) (Nat.le_of_ble_eq_true rfl) (Nat.le_of_ble_eq_true rfl) dL_law_0 (fun q H hP hD hS => ?_)
  have hP : va_P D vwCl [(q, .inr (8, bX7))] H := hP
  have hD : va_D A [(q, .inr (8, bX7))] := hD
  refine lv_dup hx hb dL_law_3 rfl ?_
  have hF := all_F hD hS hA
  refine callE (va_runI (As := []) (rest := [.ref q]) (b := q) ⟨hx, hb, hml, hown, hts⟩ (c_X7_init l D C ev q _) (cwI 0 hts gL_law_X7_init rfl rfl rfl (hts (.initialized RX7) (by decide +kernel)) (hts (.methodLink RL 271 yX7_init) (by decide +kernel)) (hts (.instanceMethod yX7_init) (by decide +kernel)) rfl (by decide +kernel) ⟨Nat.le_of_ble_eq_true rfl, Nat.le_of_ble_eq_true rfl⟩) (i7P_s (As := [.ref q]) hP hK hE hD hR9 hX9 hAO hS hF) rfl rfl hl.1 rfl (lv_room (Nat.le_of_ble_eq_true rfl)) dL_law_4 ⟨Nat.le_of_ble_eq_true rfl, Nat.le_of_ble_eq_true rfl⟩) hS hF (fun y H1 locs hF1 hPn hDn hk hS => ?_)
  obtain ⟨u, O⟩ := y
  obtain ⟨hu, hO⟩ := hF1
  have hu : u 0 = q := hu
  have hO : OT T0 O := hO
  subst hu
  have hP : va_P D vwCl (wj [kW C ev u (Q0, G0, G0, G0, H0S, S0) (R0, O)]) H1 := hPn
  have hD1 : va_D A (wj [kW C ev u (Q0, G0, G0, G0, H0S, S0) (R0, O)]) := ⟨hDn.1, fun k q hq => hF _ (hDn.2 k q hq)⟩
  have hD := hD1
  clear hPn hDn hF hk hD1
  refine lv_astore_n (i := 1) (lv' := [(1, .ref (u 0)), (0, .ref b)]) hx hb dL_law_7 rfl hl (Nat.le_of_ble_eq_true rfl) rfl (fun ls hl => ?_)
  exact law_game X (Nat.le_trans hL (Nat.le_of_ble_eq_true rfl)) hret DI_0 (kF_0 hO) (Nat.le_of_ble_eq_true rfl) (Nat.le_of_ble_eq_true rfl) hP hD hS hl
