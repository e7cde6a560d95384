def f_X2_shortestLeaving_j77  (v2_77 : Int32) : Sum (Int32) (Int32) := (Sum.inr v2_77)
def f_X2_shortestLeaving_j75 (k4 : Nat) : Sum (Int32) (Int32) := (f_X2_shortestLeaving_j77 ((nI k4)))
def f_X2_shortestLeaving_j48 (G : GS) (k4 : Nat) (v2_48 : Int32) (s0_48 : Bool) : Sum (Int32) (Int32) := (if s0_48 = true then (if v2_48 = (-1) then (f_X2_shortestLeaving_j75 k4) else (if ((gLen G) v2_48.toNatClampNeg) ≤ ((gLen G) k4) then (f_X2_shortestLeaving_j77 (v2_48)) else (f_X2_shortestLeaving_j75 k4))) else (f_X2_shortestLeaving_j77 (v2_48)))
def f_X2_shortestLeaving_j47 (G : GS) (k4 : Nat) (v2_47 : Int32) : Sum (Int32) (Int32) := (f_X2_shortestLeaving_j48 G k4 (v2_47) (false))
def f_X2_shortestLeaving_l4b (G : GS) (x : Int32) (k4 : Nat) (v2_4 : Int32) : Sum (Int32) (Int32) := (if (f_X1_hasBridge G (k4)) = true then (if (bI (f_X2_contains (x) ((nI ((gLo G) k4))))) = (bI (f_X2_contains (x) ((nI ((gHi G) k4))))) then (f_X2_shortestLeaving_j47 G k4 (v2_4)) else (f_X2_shortestLeaving_j48 G k4 (v2_4) (true))) else (f_X2_shortestLeaving_j47 G k4 (v2_4)))
def f_X2_shortestLeaving_l4x (G : GS) (x : Int32) (v2_4 : Int32) : Int32 := v2_4
def f_X2_shortestLeaving_l4s (G : GS) (x : Int32) (k4 : Nat) (q_ : Int32) : Sum (Int32) (Int32) := f_X2_shortestLeaving_l4b G x k4 (q_)
def f_X2_shortestLeaving_l4e (G : GS) (x : Int32) (q_ : Int32) : Int32 := f_X2_shortestLeaving_l4x G x (q_)
def f_X2_shortestLeaving_l4 (G : GS) (x : Int32) (n4 k4 : Nat) (v2_4 : Int32) : Int32 := lpF (f_X2_shortestLeaving_l4s G x) (f_X2_shortestLeaving_l4e G x) n4 k4 v2_4
def f_X2_shortestLeaving (Rr : GR) (G : GS) (x : Int32) : Int32 := (f_X2_shortestLeaving_l4 G x (gS G) 0 ((-1)))
set_option maxHeartbeats 4000000 in
set_option maxRecDepth 100000 in
theorem c_X2_shortestLeaving (l : Launch) (D : va_G) (C : Nat → ClassId) (g : Nat → Nat) (Rr : GR) (a : Nat → Nat) (G : GS) (x : Int32) (hG : GSafe G) : Met l yX2_shortestLeaving wsX2_shortestLeaving ({ frames := 1, cells := 0, slots := 0, locals := 21 } : Room) (roP [.ref (a 0), .int x] D C (grcells C g Rr ++ gcells C a G)) (roO (some (.int (f_X2_shortestLeaving Rr G x)))) 0 0 (fun _ => False) := by
  refine Met.ofW (cc := cX2_shortestLeaving) (maxL := 5) (ret := (some .int)) (by decide) rfl ?_
  intro p e s m args below meth c s₁ B hml hv
  obtain ⟨rfl, hP, hK, hE⟩ := hv
  have hx := B.exec
  have hb := B.bytes
  have hr := B.returns
  have hts := atoms_spec (ws := wsX2_shortestLeaving) B.pre
  have hown : s.vm.findClass RX2 = some m.cls := findClass_of_methodNamed B.named
  have hlocks := B.notSynchronized
  obtain ⟨hS12, hP4, hlo, hhi⟩ := id hG
  have hinX1 : ∀ w ∈ u_ws RX1 TX1 16, w ∈ wsX2_shortestLeaving := by decide +kernel
  have hl := lv_entry ([.ref (a 0), .int x]) (n := 5) (Nat.le_of_ble_eq_true rfl)
  rw [lg_entry_eq]
  generalize (lg_sl ([.ref (a 0), .int x]) ++ List.replicate (5 - (lg_sl ([.ref (a 0), .int x])).length) Slot.unset).toArray = ls at hl ⊢
  have hl : lv_has ls 5 [(0, .ref (a 0)), (1, .int x)] := hl
  obtain ⟨z, hz⟩ : ∃ z, z = f_X2_shortestLeaving Rr G x := ⟨_, rfl⟩
  rw [← hz]
  have J4 : ∀ (n4 k4 : Nat) (v2_4 : Int32) (ls : Array Slot), k4 + n4 = gS G → z = f_X2_shortestLeaving_l4 G x n4 k4 v2_4 → ((v2_4 = -1 ∨ vp_in v2_4 12)) → lv_has ls 5 [(0, .ref (a 0)), (1, .int x), (2, .int v2_4), (3, .int (nI k4))] → W p l e ({ frames := 1, cells := 0, slots := 0, locals := 21 } : Room) s m ([.ref (a 0), .int x] : List Value).toArray below meth c s.heap [] 0 0 (MQ below (roO (some (.int z))) ([.ref (a 0), .int x] : List Value).toArray s 0 0 (fun _ => False)) (F0 m 4 ls []) := by
    intro n4
    induction n4 with
    | zero =>
      intro k4 v2_4 ls hk4 hz iv4_0 hl
      have hz : z = f_X2_shortestLeaving_l4x G x v2_4 := hz
      refine lv_iload_n hx hb dX2_shortestLeaving_4 rfl (lv_at hl 3 rfl) ?_
      refine lv_aload_n hx hb dX2_shortestLeaving_5 rfl (lv_at hl 0 rfl) ?_
      refine va_getN (D := D) (ci := 4) (v := .int (nI (gS G))) (C := RX1) (T := TX1) (N := 16) hx hb hts hinX1 hown hK hP 4 rfl rfl 5 (by decide) (hE.use 4 rfl) (fun _ h9 => h9) rfl dX2_shortestLeaving_6 ?_
      refine lv_icmp_ge (tgt := 83) hx hb dX2_shortestLeaving_9 (by decide) (fun c_9 => ?_) (fun c_9 => absurd (nI_le (by omega) (by omega)) c_9)
      refine lv_iload_n hx hb dX2_shortestLeaving_83 rfl (lv_at hl 2 rfl) ?_
      exact ro_ret hx hb hr hz dX2_shortestLeaving_84 hlocks
    | succ n4 ih4 =>
      intro k4 v2_4 ls hk4 hz4 iv4_0 hl
      obtain ⟨z4, hz⟩ : ∃ zz_, zz_ = f_X2_shortestLeaving_l4b G x k4 v2_4 := ⟨_, rfl⟩
      have hq4 : z = sE id (fun q_ => lpF (f_X2_shortestLeaving_l4s G x) (f_X2_shortestLeaving_l4e G x) n4 (k4 + 1) q_) z4 := by rw [hz4, hz]; rfl
      have J77 : ∀ (v2_77 : Int32)  (ls : Array Slot), z4 = f_X2_shortestLeaving_j77 v2_77 → ((v2_77 = -1 ∨ vp_in v2_77 12)) → lv_has ls 5 [(0, .ref (a 0)), (1, .int x), (2, .int v2_77), (3, .int (nI k4))] → W p l e ({ frames := 1, cells := 0, slots := 0, locals := 21 } : Room) s m ([.ref (a 0), .int x] : List Value).toArray below meth c s.heap [] 0 0 (MQ below (roO (some (.int z))) ([.ref (a 0), .int x] : List Value).toArray s 0 0 (fun _ => False)) (F0 m 77 ls []) := by
        intro v2_77 ls hz iv77_0 hl
        refine lv_iinc (v := (nI (k4 + 1))) (lv' := [(3, .int (nI (k4 + 1))), (0, .ref (a 0)), (1, .int x), (2, .int v2_77)]) hx hb dX2_shortestLeaving_77 hl (k := 3) rfl (by exact nI_1 _) (by decide) rfl (fun ls hl => ?_)
        refine lv_goto (tgt := 4) hx hb dX2_shortestLeaving_80 (by decide) ?_
        exact ih4 (k4 + 1) (v2_77) ls (by omega) (by rw [hq4, hz]; rfl) (by first | assumption | exact Or.inl (by decide) | exact Or.inr (vp_in_nI (by omega) (by decide))) (lv_sub hl [1, 2, 3, 0] rfl)
      have J75 : ∀  (ls : Array Slot), z4 = f_X2_shortestLeaving_j75 k4 → lv_has ls 5 [(0, .ref (a 0)), (1, .int x), (3, .int (nI k4))] → W p l e ({ frames := 1, cells := 0, slots := 0, locals := 21 } : Room) s m ([.ref (a 0), .int x] : List Value).toArray below meth c s.heap [] 0 0 (MQ below (roO (some (.int z))) ([.ref (a 0), .int x] : List Value).toArray s 0 0 (fun _ => False)) (F0 m 75 ls []) := by
        intro  ls hz  hl
        refine lv_iload_n hx hb dX2_shortestLeaving_75 rfl (lv_at hl 2 rfl) ?_
        refine lv_istore_n (lv' := [(2, .int (nI k4)), (0, .ref (a 0)), (1, .int x), (3, .int (nI k4))]) hx hb dX2_shortestLeaving_76 rfl hl (by decide) rfl (fun ls hl => ?_)
        exact J77 ((nI k4)) ls hz (by first | assumption | exact Or.inl (by decide) | exact Or.inr (vp_in_nI (by omega) (by decide))) (lv_sub hl [1, 2, 0, 3] rfl)
      have J48 : ∀ (v2_48 : Int32) (s0_48 : Bool)  (ls : Array Slot), z4 = f_X2_shortestLeaving_j48 G k4 v2_48 s0_48 → ((v2_48 = -1 ∨ vp_in v2_48 12)) → lv_has ls 5 [(0, .ref (a 0)), (1, .int x), (2, .int v2_48), (3, .int (nI k4))] → W p l e ({ frames := 1, cells := 0, slots := 0, locals := 21 } : Room) s m ([.ref (a 0), .int x] : List Value).toArray below meth c s.heap [] 0 0 (MQ below (roO (some (.int z))) ([.ref (a 0), .int x] : List Value).toArray s 0 0 (fun _ => False)) (F0 m 48 ls [.int (bI s0_48)]) := by
        intro v2_48 s0_48 ls hz iv48_0 hl
        refine lv_istore (lv' := [(4, .int (bI s0_48)), (0, .ref (a 0)), (1, .int x), (2, .int v2_48), (3, .int (nI k4))]) hx hb dX2_shortestLeaving_48 hl (by decide) rfl (fun ls hl => ?_)
        refine lv_iload hx hb dX2_shortestLeaving_50 (lv_at hl 0 rfl) ?_
        refine bif_eq (tgt := 77) hx hb dX2_shortestLeaving_52 (by decide) (fun c_52 => ?_) (fun c_52 => ?_)
        · have hz := hz.trans (ifB_f c_52)
          exact J77 (v2_48) ls hz (by first | assumption | exact Or.inl (by decide) | exact Or.inr (vp_in_nI (by omega) (by decide))) (lv_sub hl [1, 2, 3, 4] rfl)
        · have hz := hz.trans (ifB_t c_52)
          refine lv_iload_n hx hb dX2_shortestLeaving_55 rfl (lv_at hl 3 rfl) ?_
          refine lv_iconst (v := (-1)) hx hb dX2_shortestLeaving_56 (by decide) ?_
          refine lv_icmp_eq (tgt := 75) hx hb dX2_shortestLeaving_57 (by decide) (fun c_57 => ?_) (fun c_57 => ?_)
          · have hz := hz.trans (if_pos c_57)
            exact J75  ls hz  (lv_sub hl [1, 2, 4] rfl)
          · have hz := hz.trans (if_neg c_57)
            refine lv_aload_n hx hb dX2_shortestLeaving_60 rfl (lv_at hl 1 rfl) ?_
            refine va_getN (D := D) (ci := 4) (v := .ref (a 5)) (C := RX1) (T := TX1) (N := 16) hx hb hts hinX1 hown hK hP 4 rfl rfl 8 (by decide) (hE.use 10 rfl) (fun _ h9 => h9) rfl dX2_shortestLeaving_61 ?_
            refine lv_iload_n hx hb dX2_shortestLeaving_64 rfl (lv_at hl 4 rfl) ?_
            refine ialdN (tys := tyA C) hx hb hK hP 9 0 rfl rfl (i := k4) (by omega) (by decide) dX2_shortestLeaving_65 ?_
            refine lv_aload_n hx hb dX2_shortestLeaving_66 rfl (lv_at hl 1 rfl) ?_
            refine va_getN (D := D) (ci := 4) (v := .ref (a 5)) (C := RX1) (T := TX1) (N := 16) hx hb hts hinX1 hown hK hP 4 rfl rfl 8 (by decide) (hE.use 10 rfl) (fun _ h9 => h9) rfl dX2_shortestLeaving_67 ?_
            refine lv_iload_n hx hb dX2_shortestLeaving_70 rfl (lv_at hl 3 rfl) ?_
            obtain ⟨ehn_1, lhn_1⟩ := nat_of (x := v2_48) (n := 12) (by exact iv48_0.resolve_left c_57) (by omega)
            refine topN ehn_1 ?_
            refine ialdN (tys := tyA C) hx hb hK hP 9 0 rfl rfl (i := v2_48.toNatClampNeg) (by omega) (by decide) dX2_shortestLeaving_71 ?_
            refine lv_icmp_ge (tgt := 77) hx hb dX2_shortestLeaving_72 (by decide) (fun c_72 => ?_) (fun c_72 => ?_)
            · have hz := hz.trans (if_pos c_72)
              exact J77 (v2_48) ls hz (by first | assumption | exact Or.inl (by decide) | exact Or.inr (vp_in_nI (by omega) (by decide))) (lv_sub hl [1, 2, 3, 4] rfl)
            · have hz := hz.trans (if_neg c_72)
              exact J75  ls hz  (lv_sub hl [1, 2, 4] rfl)
      have J47 : ∀ (v2_47 : Int32)  (ls : Array Slot), z4 = f_X2_shortestLeaving_j47 G k4 v2_47 → ((v2_47 = -1 ∨ vp_in v2_47 12)) → lv_has ls 5 [(0, .ref (a 0)), (1, .int x), (2, .int v2_47), (3, .int (nI k4))] → W p l e ({ frames := 1, cells := 0, slots := 0, locals := 21 } : Room) s m ([.ref (a 0), .int x] : List Value).toArray below meth c s.heap [] 0 0 (MQ below (roO (some (.int z))) ([.ref (a 0), .int x] : List Value).toArray s 0 0 (fun _ => False)) (F0 m 47 ls []) := by
        intro v2_47 ls hz iv47_0 hl
        refine lv_iconst (v := 0) hx hb dX2_shortestLeaving_47 (by decide) ?_
        exact J48 (v2_47) (false) ls hz (by first | assumption | exact Or.inl (by decide) | exact Or.inr (vp_in_nI (by omega) (by decide))) (lv_sub hl [0, 1, 2, 3] rfl)
      refine lv_iload_n hx hb dX2_shortestLeaving_4 rfl (lv_at hl 3 rfl) ?_
      refine lv_aload_n hx hb dX2_shortestLeaving_5 rfl (lv_at hl 0 rfl) ?_
      refine va_getN (D := D) (ci := 4) (v := .int (nI (gS G))) (C := RX1) (T := TX1) (N := 16) hx hb hts hinX1 hown hK hP 4 rfl rfl 5 (by decide) (hE.use 4 rfl) (fun _ h9 => h9) rfl dX2_shortestLeaving_6 ?_
      refine lv_icmp_ge (tgt := 83) hx hb dX2_shortestLeaving_9 (by decide) (fun c_9 => absurd c_9 (nI_ge (by omega) (by omega))) (fun c_9 => ?_)
      refine lv_aload_n hx hb dX2_shortestLeaving_12 rfl (lv_at hl 0 rfl) ?_
      refine lv_iload_n hx hb dX2_shortestLeaving_13 rfl (lv_at hl 3 rfl) ?_
      refine callRo (va_runV (As := [.int (nI k4)]) (rest := []) ⟨hx, hb, hml, hown, hts⟩ (c_X1_hasBridge l D C a G (k4) hG (by omega)) (cwV 1 hts gX2_shortestLeaving_X1_hasBridge rfl rfl rfl (by decide +kernel) ⟨Nat.le_of_ble_eq_true rfl, Nat.le_of_ble_eq_true rfl⟩) (roP_v (hP.sub (ws' := (gcells C a G)) [4, 5, 6, 7, 8, 9, 10, 11, 12] rfl) hK hE (va_recv hK (hP.sub (ws' := (gcells C a G)) [4, 5, 6, 7, 8, 9, 10, 11, 12] rfl) (ci := 4) (q0 := 0) rfl rfl)) rfl rfl hl.1 rfl (lv_room (Nat.le_of_ble_eq_true rfl)) dX2_shortestLeaving_14 ⟨Nat.le_refl _, Nat.le_refl _⟩) ?_
      refine bif_eq (tgt := 47) hx hb dX2_shortestLeaving_17 (by decide) (fun c_17 => ?_) (fun c_17 => ?_)
      · have hz := hz.trans (ifB_f c_17)
        exact J47 (v2_4) ls hz (by first | assumption | exact Or.inl (by decide) | exact Or.inr (vp_in_nI (by omega) (by decide))) (lv_sub hl [0, 1, 2, 3] rfl)
      · have hz := hz.trans (ifB_t c_17)
        refine lv_iload_n hx hb dX2_shortestLeaving_20 rfl (lv_at hl 1 rfl) ?_
        refine lv_aload_n hx hb dX2_shortestLeaving_21 rfl (lv_at hl 0 rfl) ?_
        refine va_getN (D := D) (ci := 4) (v := .ref (a 3)) (C := RX1) (T := TX1) (N := 16) hx hb hts hinX1 hown hK hP 4 rfl rfl 6 (by decide) (hE.use 6 rfl) (fun _ h9 => h9) rfl dX2_shortestLeaving_22 ?_
        refine lv_iload_n hx hb dX2_shortestLeaving_25 rfl (lv_at hl 3 rfl) ?_
        refine ialdN (tys := tyA C) hx hb hK hP 7 0 rfl rfl (i := k4) (by omega) (by decide) dX2_shortestLeaving_26 ?_
        have hb_2 := hlo (k4)
        refine callRo (va_runS (As := [.int x, .int (nI ((gLo G) k4))]) (rest := []) ⟨hx, hb, hml, hown, hts⟩ (c_X2_contains l D C (x) ((nI ((gLo G) k4)))) (va_cwS 2 hts gX2_shortestLeaving_X2_contains rfl rfl rfl (by decide +kernel) ⟨Nat.le_of_ble_eq_true rfl, Nat.le_of_ble_eq_true rfl⟩) (roP_s (hP.sub (ws' := ([] : va_W)) [] rfl) hK hE) rfl rfl hl.1 rfl (lv_room (Nat.le_of_ble_eq_true rfl)) dX2_shortestLeaving_27 ⟨Nat.le_refl _, Nat.le_refl _⟩) ?_
        refine lv_iload_n hx hb dX2_shortestLeaving_30 rfl (lv_at hl 1 rfl) ?_
        refine lv_aload_n hx hb dX2_shortestLeaving_31 rfl (lv_at hl 0 rfl) ?_
        refine va_getN (D := D) (ci := 4) (v := .ref (a 4)) (C := RX1) (T := TX1) (N := 16) hx hb hts hinX1 hown hK hP 4 rfl rfl 7 (by decide) (hE.use 8 rfl) (fun _ h9 => h9) rfl dX2_shortestLeaving_32 ?_
        refine lv_iload_n hx hb dX2_shortestLeaving_35 rfl (lv_at hl 3 rfl) ?_
        refine ialdN (tys := tyA C) hx hb hK hP 8 0 rfl rfl (i := k4) (by omega) (by decide) dX2_shortestLeaving_36 ?_
        have hb_3 := hhi (k4)
        refine callRo (va_runS (As := [.int x, .int (nI ((gHi G) k4))]) (rest := [.int (bI (f_X2_contains (x) ((nI ((gLo G) k4)))))]) ⟨hx, hb, hml, hown, hts⟩ (c_X2_contains l D C (x) ((nI ((gHi G) k4)))) (va_cwS 2 hts gX2_shortestLeaving_X2_contains rfl rfl rfl (by decide +kernel) ⟨Nat.le_of_ble_eq_true rfl, Nat.le_of_ble_eq_true rfl⟩) (roP_s (hP.sub (ws' := ([] : va_W)) [] rfl) hK hE) rfl rfl hl.1 rfl (lv_room (Nat.le_of_ble_eq_true rfl)) dX2_shortestLeaving_37 ⟨Nat.le_refl _, Nat.le_refl _⟩) ?_
        refine lv_icmp_eq (tgt := 47) hx hb dX2_shortestLeaving_40 (by decide) (fun c_40 => ?_) (fun c_40 => ?_)
        · have hz := hz.trans (if_pos c_40)
          exact J47 (v2_4) ls hz (by first | assumption | exact Or.inl (by decide) | exact Or.inr (vp_in_nI (by omega) (by decide))) (lv_sub hl [0, 1, 2, 3] rfl)
        · have hz := hz.trans (if_neg c_40)
          refine lv_iconst (v := 1) hx hb dX2_shortestLeaving_43 (by decide) ?_
          refine lv_goto (tgt := 48) hx hb dX2_shortestLeaving_44 (by decide) ?_
          exact J48 (v2_4) (true) ls hz (by first | assumption | exact Or.inl (by decide) | exact Or.inr (vp_in_nI (by omega) (by decide))) (lv_sub hl [0, 1, 2, 3] rfl)
  refine lv_iconst (v := (-1)) hx hb dX2_shortestLeaving_0 (by decide) ?_
  refine lv_istore_n (lv' := [(2, .int (-1)), (0, .ref (a 0)), (1, .int x)]) hx hb dX2_shortestLeaving_1 rfl hl (by decide) rfl (fun ls hl => ?_)
  refine lv_iconst (v := 0) hx hb dX2_shortestLeaving_2 (by decide) ?_
  refine lv_istore_n (lv' := [(3, .int 0), (2, .int (-1)), (0, .ref (a 0)), (1, .int x)]) hx hb dX2_shortestLeaving_3 rfl hl (by decide) rfl (fun ls hl => ?_)
  exact J4 (gS G) 0 ((-1)) ls (by omega) hz (by first | assumption | exact Or.inl (by decide) | exact Or.inr (vp_in_nI (by omega) (by decide))) (lv_sub hl [2, 3, 1, 0] rfl)

