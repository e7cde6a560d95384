theorem shortestLeaving_in {R : GR} {G : GS} (hG : GSafe G) {x : Int32} (h : ¬ f_X2_shortestLeaving R G x = -1) : vp_in (f_X2_shortestLeaving R G x) 12 := by
  have h12 := hG.1
  have key : f_X2_shortestLeaving R G x = -1 ∨ vp_in (f_X2_shortestLeaving R G x) 12 := by
    refine lpF_invN (step := f_X2_shortestLeaving_l4s G x) (ex := f_X2_shortestLeaving_l4e G x) (gS G) (fun (k : Nat) (s : Int32) => (s = -1 ∨ vp_in s 12)) (fun r => r = -1 ∨ vp_in r 12) ?_ ?_ ?_ (gS G) 0 _ (Nat.zero_add _) (Or.inl rfl)
    · intro k s r hk hI hs
      simp only [f_X2_shortestLeaving_l4s, f_X2_shortestLeaving_l4b, f_X2_shortestLeaving_j47, f_X2_shortestLeaving_j48, f_X2_shortestLeaving_j75, f_X2_shortestLeaving_j77] at hs
      repeat' split at hs
      all_goals cases hs
    · intro k s s' hk hI hs
      simp only [f_X2_shortestLeaving_l4s, f_X2_shortestLeaving_l4b, f_X2_shortestLeaving_j47, f_X2_shortestLeaving_j48, f_X2_shortestLeaving_j75, f_X2_shortestLeaving_j77] at hs
      repeat' split at hs
      all_goals (cases hs; first | exact hI | exact Or.inr (vp_in_nI (by omega) (by decide)))
    · intro s hI; exact hI
  exact key.resolve_left h
def f_X2_primLength_j82  (v1_82 : Int32) (v2_82 : Int32) : Sum (Int32) (Int32 × Int32) := (Sum.inr (v1_82, v2_82))
def f_X2_primLength_l21b (Rr : GR) (G : GS) (k21 : Nat) (v1_21 : Int32) (v2_21 : Int32) : Sum (Sum (Int32) (Int32 × Int32)) (Int32 × Int32) := (if (f_X2_shortestLeaving Rr G (v2_21)) = (-1) then (Sum.inl (f_X2_primLength_j82 (v1_21) (v2_21))) else (Sum.inr ((v1_21 + ((gLen G) ((f_X2_shortestLeaving Rr G (v2_21))).toNatClampNeg)), (v2_21 ||| ((1 <<< ((nI ((gLo G) ((f_X2_shortestLeaving Rr G (v2_21))).toNatClampNeg)) &&& 31)) ||| (1 <<< ((nI ((gHi G) ((f_X2_shortestLeaving Rr G (v2_21))).toNatClampNeg)) &&& 31)))))))
def f_X2_primLength_l21x (Rr : GR) (G : GS) (v1_21 : Int32) (v2_21 : Int32) : Sum (Int32) (Int32 × Int32) := (f_X2_primLength_j82 (v1_21) (v2_21))
def f_X2_primLength_l21s (Rr : GR) (G : GS) (k21 : Nat) (q_ : Int32 × Int32) : Sum (Sum (Int32) (Int32 × Int32)) (Int32 × Int32) := f_X2_primLength_l21b Rr G k21 (q_.1) (q_.2)
def f_X2_primLength_l21e (Rr : GR) (G : GS) (q_ : Int32 × Int32) : Sum (Int32) (Int32 × Int32) := f_X2_primLength_l21x Rr G (q_.1) (q_.2)
def f_X2_primLength_l21 (Rr : GR) (G : GS) (n21 k21 : Nat) (v1_21 : Int32) (v2_21 : Int32) : Sum (Int32) (Int32 × Int32) := lpF (f_X2_primLength_l21s Rr G) (f_X2_primLength_l21e Rr G) n21 k21 (v1_21, v2_21)
def f_X2_primLength_l6b (Rr : GR) (G : GS) (k6 : Nat) (v1_6 : Int32) (v2_6 : Int32) : Sum (Int32) (Int32 × Int32) := (f_X2_primLength_l21 Rr G (8 - 1) 1 (v1_6) ((v2_6 ||| (1 <<< ((nI k6) &&& 31)))))
def f_X2_primLength_l6x (Rr : GR) (G : GS) (v1_6 : Int32) (v2_6 : Int32) : Int32 := v1_6
def f_X2_primLength_l6s (Rr : GR) (G : GS) (k6 : Nat) (q_ : Int32 × Int32) : Sum (Int32) (Int32 × Int32) := f_X2_primLength_l6b Rr G k6 (q_.1) (q_.2)
def f_X2_primLength_l6e (Rr : GR) (G : GS) (q_ : Int32 × Int32) : Int32 := f_X2_primLength_l6x Rr G (q_.1) (q_.2)
def f_X2_primLength_l6 (Rr : GR) (G : GS) (n6 k6 : Nat) (v1_6 : Int32) (v2_6 : Int32) : Int32 := lpF (f_X2_primLength_l6s Rr G) (f_X2_primLength_l6e Rr G) n6 k6 (v1_6, v2_6)
def f_X2_primLength (Rr : GR) (G : GS) : Int32 := (f_X2_primLength_l6 Rr G (8) 0 (0) (0))
set_option maxHeartbeats 4000000 in
set_option maxRecDepth 100000 in
theorem c_X2_primLength (l : Launch) (D : va_G) (C : Nat → ClassId) (g : Nat → Nat) (Rr : GR) (a : Nat → Nat) (G : GS) (hG : GSafe G) : Met l yX2_primLength wsX2_primLength ({ frames := 2, cells := 0, slots := 0, locals := 45 } : Room) (roP [.ref (a 0)] D C (grcells C g Rr ++ gcells C a G)) (roO (some (.int (f_X2_primLength Rr G)))) 0 0 (fun _ => False) := by
  refine Met.ofW (cc := cX2_primLength) (maxL := 6) (ret := (some .int)) (by decide) rfl ?_
  intro p e s m args below meth c s₁ B hml hv
  obtain ⟨rfl, hP, hK, hE⟩ := hv
  have hx := B.exec
  have hb := B.bytes
  have hr := B.returns
  have hts := atoms_spec (ws := wsX2_primLength) B.pre
  have hown : s.vm.findClass RX2 = some m.cls := findClass_of_methodNamed B.named
  have hlocks := B.notSynchronized
  obtain ⟨hS12, hP4, hlo, hhi⟩ := id hG
  have hinX1 : ∀ w ∈ u_ws RX1 TX1 16, w ∈ wsX2_primLength := by decide +kernel
  have hl := lv_entry ([.ref (a 0)]) (n := 6) (Nat.le_of_ble_eq_true rfl)
  rw [lg_entry_eq]
  generalize (lg_sl ([.ref (a 0)]) ++ List.replicate (6 - (lg_sl ([.ref (a 0)])).length) Slot.unset).toArray = ls at hl ⊢
  have hl : lv_has ls 6 [(0, .ref (a 0))] := hl
  obtain ⟨z, hz⟩ : ∃ z, z = f_X2_primLength Rr G := ⟨_, rfl⟩
  rw [← hz]
  have J6 : ∀ (n6 k6 : Nat) (v1_6 : Int32) (v2_6 : Int32) (ls : Array Slot), k6 + n6 = 8 → z = f_X2_primLength_l6 Rr G n6 k6 v1_6 v2_6 → lv_has ls 6 [(0, .ref (a 0)), (1, .int v1_6), (2, .int v2_6), (3, .int (nI k6))] → W p l e ({ frames := 2, cells := 0, slots := 0, locals := 45 } : Room) s m ([.ref (a 0)] : List Value).toArray below meth c s.heap [] 0 0 (MQ below (roO (some (.int z))) ([.ref (a 0)] : List Value).toArray s 0 0 (fun _ => False)) (F0 m 6 ls []) := by
    intro n6
    induction n6 with
    | zero =>
      intro k6 v1_6 v2_6 ls hk6 hz  hl
      have hz : z = f_X2_primLength_l6x Rr G v1_6 v2_6 := hz
      refine lv_iload_n hx hb dX2_primLength_6 rfl (lv_at hl 3 rfl) ?_
      refine lv_bipush (v := 8) hx hb dX2_primLength_7 (by decide +kernel) ?_
      refine lv_icmp_ge (tgt := 88) hx hb dX2_primLength_9 (by decide) (fun c_9 => ?_) (fun c_9 => absurd (by have e : (8 : Int32) = nI 8 := (by decide +kernel); rw [e]; exact nI_le (by omega) (by omega)) c_9)
      refine lv_iload_n hx hb dX2_primLength_88 rfl (lv_at hl 1 rfl) ?_
      exact ro_ret hx hb hr hz dX2_primLength_89 hlocks
    | succ n6 ih6 =>
      intro k6 v1_6 v2_6 ls hk6 hz6  hl
      obtain ⟨z6, hz⟩ : ∃ zz_, zz_ = f_X2_primLength_l6b Rr G k6 v1_6 v2_6 := ⟨_, rfl⟩
      have hq6 : z = sE id (fun q_ => lpF (f_X2_primLength_l6s Rr G) (f_X2_primLength_l6e Rr G) n6 (k6 + 1) q_) z6 := by rw [hz6, hz]; rfl
      have J82 : ∀ (v1_82 : Int32) (v2_82 : Int32)  (ls : Array Slot), z6 = f_X2_primLength_j82 v1_82 v2_82 → lv_has ls 6 [(0, .ref (a 0)), (1, .int v1_82), (2, .int v2_82), (3, .int (nI k6))] → W p l e ({ frames := 2, cells := 0, slots := 0, locals := 45 } : Room) s m ([.ref (a 0)] : List Value).toArray below meth c s.heap [] 0 0 (MQ below (roO (some (.int z))) ([.ref (a 0)] : List Value).toArray s 0 0 (fun _ => False)) (F0 m 82 ls []) := by
        intro v1_82 v2_82 ls hz  hl
        refine lv_iinc (v := (nI (k6 + 1))) (lv' := [(3, .int (nI (k6 + 1))), (0, .ref (a 0)), (1, .int v1_82), (2, .int v2_82)]) hx hb dX2_primLength_82 hl (k := 3) rfl (by exact nI_1 _) (by decide) rfl (fun ls hl => ?_)
        refine lv_goto (tgt := 6) hx hb dX2_primLength_85 (by decide) ?_
        exact ih6 (k6 + 1) (v1_82) (v2_82) ls (by omega) (by rw [hq6, hz]; rfl)  (lv_sub hl [1, 2, 3, 0] rfl)
      have J21 : ∀ (n21 k21 : Nat) (v1_21 : Int32) (v2_21 : Int32) (ls : Array Slot), k21 + n21 = 8 → z6 = f_X2_primLength_l21 Rr G n21 k21 v1_21 v2_21 → lv_has ls 6 [(0, .ref (a 0)), (1, .int v1_21), (2, .int v2_21), (3, .int (nI k6)), (4, .int (nI k21))] → W p l e ({ frames := 2, cells := 0, slots := 0, locals := 45 } : Room) s m ([.ref (a 0)] : List Value).toArray below meth c s.heap [] 0 0 (MQ below (roO (some (.int z))) ([.ref (a 0)] : List Value).toArray s 0 0 (fun _ => False)) (F0 m 21 ls []) := by
        intro n21
        induction n21 with
        | zero =>
          intro k21 v1_21 v2_21 ls hk21 hz  hl
          have hz : z6 = f_X2_primLength_l21x Rr G v1_21 v2_21 := hz
          refine lv_iload hx hb dX2_primLength_21 (lv_at hl 4 rfl) ?_
          refine lv_bipush (v := 8) hx hb dX2_primLength_23 (by decide +kernel) ?_
          refine lv_icmp_ge (tgt := 82) hx hb dX2_primLength_25 (by decide) (fun c_25 => ?_) (fun c_25 => absurd (by have e : (8 : Int32) = nI 8 := (by decide +kernel); rw [e]; exact nI_le (by omega) (by omega)) c_25)
          exact J82 (v1_21) (v2_21) ls hz  (lv_sub hl [0, 1, 2, 3] rfl)
        | succ n21 ih21 =>
          intro k21 v1_21 v2_21 ls hk21 hz21  hl
          obtain ⟨z21, hz⟩ : ∃ zz_, zz_ = f_X2_primLength_l21b Rr G k21 v1_21 v2_21 := ⟨_, rfl⟩
          have hq21 : z6 = sE id (fun q_ => lpF (f_X2_primLength_l21s Rr G) (f_X2_primLength_l21e Rr G) n21 (k21 + 1) q_) z21 := by rw [hz21, hz]; rfl
          refine lv_iload hx hb dX2_primLength_21 (lv_at hl 4 rfl) ?_
          refine lv_bipush (v := 8) hx hb dX2_primLength_23 (by decide +kernel) ?_
          refine lv_icmp_ge (tgt := 82) hx hb dX2_primLength_25 (by decide) (fun c_25 => absurd c_25 (by have e : (8 : Int32) = nI 8 := (by decide +kernel); rw [e]; exact nI_ge (by omega) (by omega))) (fun c_25 => ?_)
          refine lv_aload_n hx hb dX2_primLength_28 rfl (lv_at hl 0 rfl) ?_
          refine lv_iload_n hx hb dX2_primLength_29 rfl (lv_at hl 2 rfl) ?_
          refine callRo (va_runS (As := [.ref (a 0), .int v2_21]) (rest := []) ⟨hx, hb, hml, hown, hts⟩ (c_X2_shortestLeaving l D C g Rr a G (v2_21) hG) (va_cwS 2 hts gX2_primLength_X2_shortestLeaving rfl rfl rfl (by decide +kernel) ⟨Nat.le_of_ble_eq_true rfl, Nat.le_of_ble_eq_true rfl⟩) (roP_s hP hK hE) rfl rfl hl.1 rfl (lv_room (Nat.le_of_ble_eq_true rfl)) dX2_primLength_30 ⟨Nat.le_refl _, Nat.le_refl _⟩) ?_
          refine lv_istore (lv' := [(5, .int (f_X2_shortestLeaving Rr G (v2_21))), (0, .ref (a 0)), (1, .int v1_21), (2, .int v2_21), (3, .int (nI k6)), (4, .int (nI k21))]) hx hb dX2_primLength_33 hl (by decide) rfl (fun ls hl => ?_)
          refine lv_iload hx hb dX2_primLength_35 (lv_at hl 0 rfl) ?_
          refine lv_iconst (v := (-1)) hx hb dX2_primLength_37 (by decide) ?_
          refine lv_icmp_ne (tgt := 44) hx hb dX2_primLength_38 (by decide) (fun c_38 => ?_) (fun c_38 => ?_)
          · have hz := hz.trans (if_neg c_38)
            refine lv_iload_n hx hb dX2_primLength_44 rfl (lv_at hl 2 rfl) ?_
            refine lv_aload_n hx hb dX2_primLength_45 rfl (lv_at hl 1 rfl) ?_
            refine va_getN (D := D) (ci := 4) (v := .ref (a 5)) (C := RX1) (T := TX1) (N := 16) hx hb hts hinX1 hown hK hP 4 rfl rfl 8 (by decide) (hE.use 10 rfl) (fun _ h9 => h9) rfl dX2_primLength_46 ?_
            refine lv_iload hx hb dX2_primLength_49 (lv_at hl 0 rfl) ?_
            obtain ⟨ehn_1, lhn_1⟩ := nat_of (x := (f_X2_shortestLeaving Rr G (v2_21))) (n := 12) (by exact shortestLeaving_in (R := Rr) hG c_38) (by omega)
            refine topN ehn_1 ?_
            refine ialdN (tys := tyA C) hx hb hK hP 9 0 rfl rfl (i := ((f_X2_shortestLeaving Rr G (v2_21))).toNatClampNeg) (by omega) (by decide) dX2_primLength_51 ?_
            refine lv_iadd hx hb dX2_primLength_52 ?_
            refine lv_istore_n (lv' := [(1, .int (v1_21 + ((gLen G) ((f_X2_shortestLeaving Rr G (v2_21))).toNatClampNeg))), (5, .int (f_X2_shortestLeaving Rr G (v2_21))), (0, .ref (a 0)), (2, .int v2_21), (3, .int (nI k6)), (4, .int (nI k21))]) hx hb dX2_primLength_53 rfl hl (by decide) rfl (fun ls hl => ?_)
            refine lv_iload_n hx hb dX2_primLength_54 rfl (lv_at hl 3 rfl) ?_
            refine lv_iconst (v := 1) hx hb dX2_primLength_55 (by decide) ?_
            refine lv_aload_n hx hb dX2_primLength_56 rfl (lv_at hl 2 rfl) ?_
            refine va_getN (D := D) (ci := 4) (v := .ref (a 3)) (C := RX1) (T := TX1) (N := 16) hx hb hts hinX1 hown hK hP 4 rfl rfl 6 (by decide) (hE.use 6 rfl) (fun _ h9 => h9) rfl dX2_primLength_57 ?_
            refine lv_iload hx hb dX2_primLength_60 (lv_at hl 1 rfl) ?_
            obtain ⟨ehn_2, lhn_2⟩ := nat_of (x := (f_X2_shortestLeaving Rr G (v2_21))) (n := 12) (by exact shortestLeaving_in (R := Rr) hG c_38) (by omega)
            refine topN ehn_2 ?_
            refine ialdN (tys := tyA C) hx hb hK hP 7 0 rfl rfl (i := ((f_X2_shortestLeaving Rr G (v2_21))).toNatClampNeg) (by omega) (by decide) dX2_primLength_62 ?_
            have hb_3 := hlo (((f_X2_shortestLeaving Rr G (v2_21))).toNatClampNeg)
            refine lv_ishl hx hb dX2_primLength_63 ?_
            refine lv_iconst (v := 1) hx hb dX2_primLength_64 (by decide) ?_
            refine lv_aload_n hx hb dX2_primLength_65 rfl (lv_at hl 2 rfl) ?_
            refine va_getN (D := D) (ci := 4) (v := .ref (a 4)) (C := RX1) (T := TX1) (N := 16) hx hb hts hinX1 hown hK hP 4 rfl rfl 7 (by decide) (hE.use 8 rfl) (fun _ h9 => h9) rfl dX2_primLength_66 ?_
            refine lv_iload hx hb dX2_primLength_69 (lv_at hl 1 rfl) ?_
            obtain ⟨ehn_4, lhn_4⟩ := nat_of (x := (f_X2_shortestLeaving Rr G (v2_21))) (n := 12) (by exact shortestLeaving_in (R := Rr) hG c_38) (by omega)
            refine topN ehn_4 ?_
            refine ialdN (tys := tyA C) hx hb hK hP 8 0 rfl rfl (i := ((f_X2_shortestLeaving Rr G (v2_21))).toNatClampNeg) (by omega) (by decide) dX2_primLength_71 ?_
            have hb_5 := hhi (((f_X2_shortestLeaving Rr G (v2_21))).toNatClampNeg)
            refine lv_ishl hx hb dX2_primLength_72 ?_
            refine lv_ior hx hb dX2_primLength_73 ?_
            refine lv_ior hx hb dX2_primLength_74 ?_
            refine lv_istore_n (lv' := [(2, .int (v2_21 ||| ((1 <<< ((nI ((gLo G) ((f_X2_shortestLeaving Rr G (v2_21))).toNatClampNeg)) &&& 31)) ||| (1 <<< ((nI ((gHi G) ((f_X2_shortestLeaving Rr G (v2_21))).toNatClampNeg)) &&& 31))))), (1, .int (v1_21 + ((gLen G) ((f_X2_shortestLeaving Rr G (v2_21))).toNatClampNeg))), (5, .int (f_X2_shortestLeaving Rr G (v2_21))), (0, .ref (a 0)), (3, .int (nI k6)), (4, .int (nI k21))]) hx hb dX2_primLength_75 rfl hl (by decide) rfl (fun ls hl => ?_)
            refine lv_iinc (v := (nI (k21 + 1))) (lv' := [(4, .int (nI (k21 + 1))), (2, .int (v2_21 ||| ((1 <<< ((nI ((gLo G) ((f_X2_shortestLeaving Rr G (v2_21))).toNatClampNeg)) &&& 31)) ||| (1 <<< ((nI ((gHi G) ((f_X2_shortestLeaving Rr G (v2_21))).toNatClampNeg)) &&& 31))))), (1, .int (v1_21 + ((gLen G) ((f_X2_shortestLeaving Rr G (v2_21))).toNatClampNeg))), (5, .int (f_X2_shortestLeaving Rr G (v2_21))), (0, .ref (a 0)), (3, .int (nI k6))]) hx hb dX2_primLength_76 hl (k := 5) rfl (by exact nI_1 _) (by decide) rfl (fun ls hl => ?_)
            refine lv_goto (tgt := 21) hx hb dX2_primLength_79 (by decide) ?_
            exact ih21 (k21 + 1) ((v1_21 + ((gLen G) ((f_X2_shortestLeaving Rr G (v2_21))).toNatClampNeg))) ((v2_21 ||| ((1 <<< ((nI ((gLo G) ((f_X2_shortestLeaving Rr G (v2_21))).toNatClampNeg)) &&& 31)) ||| (1 <<< ((nI ((gHi G) ((f_X2_shortestLeaving Rr G (v2_21))).toNatClampNeg)) &&& 31))))) ls (by omega) (by rw [hq21, hz]; rfl)  (lv_sub hl [4, 2, 1, 5, 0] rfl)
          · have hz := hz.trans (if_pos c_38)
            refine lv_goto (tgt := 82) hx hb dX2_primLength_41 (by decide) ?_
            have hz := up1 hq21 hz
            exact J82 (v1_21) (v2_21) ls hz  (lv_sub hl [1, 2, 3, 4] rfl)
      refine lv_iload_n hx hb dX2_primLength_6 rfl (lv_at hl 3 rfl) ?_
      refine lv_bipush (v := 8) hx hb dX2_primLength_7 (by decide +kernel) ?_
      refine lv_icmp_ge (tgt := 88) hx hb dX2_primLength_9 (by decide) (fun c_9 => absurd c_9 (by have e : (8 : Int32) = nI 8 := (by decide +kernel); rw [e]; exact nI_ge (by omega) (by omega))) (fun c_9 => ?_)
      refine lv_iload_n hx hb dX2_primLength_12 rfl (lv_at hl 2 rfl) ?_
      refine lv_iconst (v := 1) hx hb dX2_primLength_13 (by decide) ?_
      refine lv_iload_n hx hb dX2_primLength_14 rfl (lv_at hl 3 rfl) ?_
      refine lv_ishl hx hb dX2_primLength_15 ?_
      refine lv_ior hx hb dX2_primLength_16 ?_
      refine lv_istore_n (lv' := [(2, .int (v2_6 ||| (1 <<< ((nI k6) &&& 31)))), (0, .ref (a 0)), (1, .int v1_6), (3, .int (nI k6))]) hx hb dX2_primLength_17 rfl hl (by decide) rfl (fun ls hl => ?_)
      refine lv_iconst (v := 1) hx hb dX2_primLength_18 (by decide) ?_
      refine lv_istore (lv' := [(4, .int 1), (2, .int (v2_6 ||| (1 <<< ((nI k6) &&& 31)))), (0, .ref (a 0)), (1, .int v1_6), (3, .int (nI k6))]) hx hb dX2_primLength_19 hl (by decide) rfl (fun ls hl => ?_)
      exact J21 (8 - 1) 1 (v1_6) ((v2_6 ||| (1 <<< ((nI k6) &&& 31)))) ls (by omega) hz  (lv_sub hl [2, 3, 1, 4, 0] rfl)
  refine lv_iconst (v := 0) hx hb dX2_primLength_0 (by decide) ?_
  refine lv_istore_n (lv' := [(1, .int 0), (0, .ref (a 0))]) hx hb dX2_primLength_1 rfl hl (by decide) rfl (fun ls hl => ?_)
  refine lv_iconst (v := 0) hx hb dX2_primLength_2 (by decide) ?_
  refine lv_istore_n (lv' := [(2, .int 0), (1, .int 0), (0, .ref (a 0))]) hx hb dX2_primLength_3 rfl hl (by decide) rfl (fun ls hl => ?_)
  refine lv_iconst (v := 0) hx hb dX2_primLength_4 (by decide) ?_
  refine lv_istore_n (lv' := [(3, .int 0), (2, .int 0), (1, .int 0), (0, .ref (a 0))]) hx hb dX2_primLength_5 rfl hl (by decide) rfl (fun ls hl => ?_)
  exact J6 (8) 0 (0) (0) ls (by omega) hz  (lv_sub hl [3, 2, 1, 0] rfl)

