theorem X2_visit6_sub {G : GS} (hG : GSafe G) {i : Int32} (hi : vp_in i 8) (x : Int32) : subS x (f_X2_visit6 G i x) := by
  refine lpF_invN (step := f_X2_visit6_l9s G i) (ex := f_X2_visit6_l9e G i) (gS G) (fun _ v => subS x v) (fun r => subS x r) ?_ ?_ ?_ (gS G) 0 _ (Nat.zero_add _) (sub_seti x hi)
  · intro k v r _ hI h
    simp only [f_X2_visit6_l9s, f_X2_visit6_l9b, f_X2_visit6_j50] at h
    repeat' split at h
    all_goals cases h
  · intro k v v' _ hI h
    simp only [f_X2_visit6_l9s, f_X2_visit6_l9b, f_X2_visit6_j50] at h
    split at h
    · cases h; exact hI
    · rename_i c1
      split at h
      · cases h; exact hI
      · cases h; exact subS_trans hI (X2_visit5_sub hG (bridgedFrom_in hG c1) v)
  · intro v hI; exact hI
def f_X2_visit7_j50  (v3_50 : Int32) : Sum (Int32) (Int32) := (Sum.inr v3_50)
def f_X2_visit7_l9b (G : GS) (i : Int32) (k9 : Nat) (v3_9 : Int32) : Sum (Int32) (Int32) := (if (f_X1_bridgedFrom G (i) (k9)) = (-1) then (f_X2_visit7_j50 (v3_9)) else (if (f_X2_contains (v3_9) ((f_X1_bridgedFrom G (i) (k9)))) = true then (f_X2_visit7_j50 (v3_9)) else (f_X2_visit7_j50 ((f_X2_visit6 G ((f_X1_bridgedFrom G (i) (k9))) (v3_9))))))
def f_X2_visit7_l9x (G : GS) (i : Int32) (v3_9 : Int32) : Int32 := v3_9
def f_X2_visit7_l9s (G : GS) (i : Int32) (k9 : Nat) (q_ : Int32) : Sum (Int32) (Int32) := f_X2_visit7_l9b G i k9 (q_)
def f_X2_visit7_l9e (G : GS) (i : Int32) (q_ : Int32) : Int32 := f_X2_visit7_l9x G i (q_)
def f_X2_visit7_l9 (G : GS) (i : Int32) (n9 k9 : Nat) (v3_9 : Int32) : Int32 := lpF (f_X2_visit7_l9s G i) (f_X2_visit7_l9e G i) n9 k9 v3_9
def f_X2_visit7 (G : GS) (i : Int32) (x : Int32) : Int32 := (f_X2_visit7_l9 G i (gS G) 0 ((x ||| (1 <<< (i &&& 31)))))
set_option maxHeartbeats 4000000 in
set_option maxRecDepth 100000 in
theorem c_X2_visit7 (l : Launch) (D : va_G) (C : Nat → ClassId) (a : Nat → Nat) (G : GS) (i : Int32) (x : Int32) (hG : GSafe G) (hi : vp_in i 8) (hn : f_X2_contains x i = false) (hu : cU x ≤ 7) : Met l yX2_visit wsX2_visit ({ frames := 8, cells := 0, slots := 0, locals := 193 } : Room) (roP [.ref (a 0), .int i, .int x] D C (gcells C a G)) (roO (some (.int (f_X2_visit7 G i x)))) 0 0 (fun _ => False) := by
  refine Met.ofW (cc := cX2_visit) (maxL := 6) (ret := (some .int)) (by decide) rfl ?_
  intro p e s m args below meth c s₁ B hml hv
  obtain ⟨rfl, hP, hK, hE⟩ := hv
  have hx := B.exec
  have hb := B.bytes
  have hr := B.returns
  have hts := atoms_spec (ws := wsX2_visit) B.pre
  have hown : s.vm.findClass RX2 = some m.cls := findClass_of_methodNamed B.named
  have hlocks := B.notSynchronized
  obtain ⟨hS12, hP4, hlo, hhi⟩ := id hG
  have hinX1 : ∀ w ∈ u_ws RX1 TX1 16, w ∈ wsX2_visit := by decide +kernel
  have hl := lv_entry ([.ref (a 0), .int i, .int x]) (n := 6) (Nat.le_of_ble_eq_true rfl)
  rw [lg_entry_eq]
  generalize (lg_sl ([.ref (a 0), .int i, .int x]) ++ List.replicate (6 - (lg_sl ([.ref (a 0), .int i, .int x])).length) Slot.unset).toArray = ls at hl ⊢
  have hl : lv_has ls 6 [(0, .ref (a 0)), (1, .int i), (2, .int x)] := hl
  have hc9 := cU_seti hi hn
  obtain ⟨z, hz⟩ : ∃ z, z = f_X2_visit7 G i x := ⟨_, rfl⟩
  rw [← hz]
  have J9 : ∀ (n9 k9 : Nat) (v3_9 : Int32) (ls : Array Slot), k9 + n9 = gS G → z = f_X2_visit7_l9 G i n9 k9 v3_9 → (cU v3_9 ≤ 6) → lv_has ls 6 [(0, .ref (a 0)), (1, .int i), (3, .int v3_9), (4, .int (nI k9))] → W p l e ({ frames := 8, cells := 0, slots := 0, locals := 193 } : Room) s m ([.ref (a 0), .int i, .int x] : List Value).toArray below meth c s.heap [] 0 0 (MQ below (roO (some (.int z))) ([.ref (a 0), .int i, .int x] : List Value).toArray s 0 0 (fun _ => False)) (F0 m 9 ls []) := by
    intro n9
    induction n9 with
    | zero =>
      intro k9 v3_9 ls hk9 hz iv9_0 hl
      have hz : z = f_X2_visit7_l9x G i v3_9 := hz
      refine lv_iload hx hb dX2_visit_9 (lv_at hl 3 rfl) ?_
      refine lv_aload_n hx hb dX2_visit_11 rfl (lv_at hl 0 rfl) ?_
      refine va_getN (D := D) (ci := 4) (v := .int (nI (gS G))) (C := RX1) (T := TX1) (N := 16) hx hb hts hinX1 hown hK hP 0 rfl rfl 5 (by decide) (hE.use 4 rfl) (fun _ h9 => h9) rfl dX2_visit_12 ?_
      refine lv_icmp_ge (tgt := 56) hx hb dX2_visit_15 (by decide) (fun c_15 => ?_) (fun c_15 => absurd (nI_le (by omega) (by omega)) c_15)
      refine lv_iload_n hx hb dX2_visit_56 rfl (lv_at hl 2 rfl) ?_
      exact ro_ret hx hb hr hz dX2_visit_57 hlocks
    | succ n9 ih9 =>
      intro k9 v3_9 ls hk9 hz9 iv9_0 hl
      obtain ⟨z9, hz⟩ : ∃ zz_, zz_ = f_X2_visit7_l9b G i k9 v3_9 := ⟨_, rfl⟩
      have hq9 : z = sE id (fun q_ => lpF (f_X2_visit7_l9s G i) (f_X2_visit7_l9e G i) n9 (k9 + 1) q_) z9 := by rw [hz9, hz]; rfl
      have J50 : ∀ (v3_50 : Int32)  (ls : Array Slot), z9 = f_X2_visit7_j50 v3_50 → (cU v3_50 ≤ 6) → lv_has ls 6 [(0, .ref (a 0)), (1, .int i), (3, .int v3_50), (4, .int (nI k9))] → W p l e ({ frames := 8, cells := 0, slots := 0, locals := 193 } : Room) s m ([.ref (a 0), .int i, .int x] : List Value).toArray below meth c s.heap [] 0 0 (MQ below (roO (some (.int z))) ([.ref (a 0), .int i, .int x] : List Value).toArray s 0 0 (fun _ => False)) (F0 m 50 ls []) := by
        intro v3_50 ls hz iv50_0 hl
        refine lv_iinc (v := (nI (k9 + 1))) (lv' := [(4, .int (nI (k9 + 1))), (0, .ref (a 0)), (1, .int i), (3, .int v3_50)]) hx hb dX2_visit_50 hl (k := 3) rfl (by exact nI_1 _) (by decide) rfl (fun ls hl => ?_)
        refine lv_goto (tgt := 9) hx hb dX2_visit_53 (by decide) ?_
        exact ih9 (k9 + 1) (v3_50) ls (by omega) (by rw [hq9, hz]; rfl) (by first | assumption | omega) (lv_sub hl [1, 2, 3, 0] rfl)
      refine lv_iload hx hb dX2_visit_9 (lv_at hl 3 rfl) ?_
      refine lv_aload_n hx hb dX2_visit_11 rfl (lv_at hl 0 rfl) ?_
      refine va_getN (D := D) (ci := 4) (v := .int (nI (gS G))) (C := RX1) (T := TX1) (N := 16) hx hb hts hinX1 hown hK hP 0 rfl rfl 5 (by decide) (hE.use 4 rfl) (fun _ h9 => h9) rfl dX2_visit_12 ?_
      refine lv_icmp_ge (tgt := 56) hx hb dX2_visit_15 (by decide) (fun c_15 => absurd c_15 (nI_ge (by omega) (by omega))) (fun c_15 => ?_)
      refine lv_aload_n hx hb dX2_visit_18 rfl (lv_at hl 0 rfl) ?_
      refine lv_iload_n hx hb dX2_visit_19 rfl (lv_at hl 1 rfl) ?_
      refine lv_iload hx hb dX2_visit_20 (lv_at hl 3 rfl) ?_
      refine callRo (va_runV (As := [.int i, .int (nI k9)]) (rest := []) ⟨hx, hb, hml, hown, hts⟩ (c_X1_bridgedFrom l D C a G (i) (k9) hG (by omega)) (cwV 2 hts gX2_visit_X1_bridgedFrom rfl rfl rfl (by decide +kernel) ⟨Nat.le_of_ble_eq_true rfl, Nat.le_of_ble_eq_true rfl⟩) (roP_v hP hK hE (va_recv hK hP (ci := 4) (q0 := 0) rfl rfl)) rfl rfl hl.1 rfl (lv_room (Nat.le_of_ble_eq_true rfl)) dX2_visit_22 ⟨Nat.le_refl _, Nat.le_refl _⟩) ?_
      refine lv_istore (lv' := [(5, .int (f_X1_bridgedFrom G (i) (k9))), (0, .ref (a 0)), (1, .int i), (3, .int v3_9), (4, .int (nI k9))]) hx hb dX2_visit_25 hl (by decide) rfl (fun ls hl => ?_)
      refine lv_iload hx hb dX2_visit_27 (lv_at hl 0 rfl) ?_
      refine lv_iconst (v := (-1)) hx hb dX2_visit_29 (by decide) ?_
      refine lv_icmp_eq (tgt := 50) hx hb dX2_visit_30 (by decide) (fun c_30 => ?_) (fun c_30 => ?_)
      · have hz := hz.trans (if_pos c_30)
        exact J50 (v3_9) ls hz (by first | assumption | omega) (lv_sub hl [1, 2, 3, 4] rfl)
      · have hz := hz.trans (if_neg c_30)
        refine lv_iload_n hx hb dX2_visit_33 rfl (lv_at hl 3 rfl) ?_
        refine lv_iload hx hb dX2_visit_34 (lv_at hl 0 rfl) ?_
        refine callRo (va_runS (As := [.int v3_9, .int (f_X1_bridgedFrom G (i) (k9))]) (rest := []) ⟨hx, hb, hml, hown, hts⟩ (c_X2_contains l D C (v3_9) ((f_X1_bridgedFrom G (i) (k9)))) (va_cwS 2 hts gX2_visit_X2_contains rfl rfl rfl (by decide +kernel) ⟨Nat.le_of_ble_eq_true rfl, Nat.le_of_ble_eq_true rfl⟩) (roP_s (hP.sub (ws' := ([] : va_W)) [] rfl) hK hE) rfl rfl hl.1 rfl (lv_room (Nat.le_of_ble_eq_true rfl)) dX2_visit_36 ⟨Nat.le_refl _, Nat.le_refl _⟩) ?_
        refine bif_ne (tgt := 50) hx hb dX2_visit_39 (by decide) (fun c_39 => ?_) (fun c_39 => ?_)
        · have hz := hz.trans (ifB_t c_39)
          exact J50 (v3_9) ls hz (by first | assumption | omega) (lv_sub hl [1, 2, 3, 4] rfl)
        · have hz := hz.trans (ifB_f c_39)
          refine lv_aload_n hx hb dX2_visit_42 rfl (lv_at hl 1 rfl) ?_
          refine lv_iload hx hb dX2_visit_43 (lv_at hl 0 rfl) ?_
          refine lv_iload_n hx hb dX2_visit_45 rfl (lv_at hl 3 rfl) ?_
          refine callRo (va_runS (As := [.ref (a 0), .int (f_X1_bridgedFrom G (i) (k9)), .int v3_9]) (rest := []) ⟨hx, hb, hml, hown, hts⟩ (c_X2_visit6 l D C a G ((f_X1_bridgedFrom G (i) (k9))) (v3_9) hG (by exact bridgedFrom_in hG c_30) (by exact c_39) (by exact iv9_0)) (va_cwS 3 hts gX2_visit_X2_visit rfl rfl rfl (by decide +kernel) ⟨Nat.le_of_ble_eq_true rfl, Nat.le_of_ble_eq_true rfl⟩) (roP_s hP hK hE) rfl rfl hl.1 rfl (lv_room (Nat.le_of_ble_eq_true rfl)) dX2_visit_46 ⟨Nat.le_refl _, Nat.le_refl _⟩) ?_
          have s46 := cU_mono (X2_visit6_sub hG (bridgedFrom_in hG c_30) v3_9)
          refine lv_istore_n (lv' := [(3, .int (f_X2_visit6 G ((f_X1_bridgedFrom G (i) (k9))) (v3_9))), (5, .int (f_X1_bridgedFrom G (i) (k9))), (0, .ref (a 0)), (1, .int i), (4, .int (nI k9))]) hx hb dX2_visit_49 rfl hl (by decide) rfl (fun ls hl => ?_)
          exact J50 ((f_X2_visit6 G ((f_X1_bridgedFrom G (i) (k9))) (v3_9))) ls hz (by first | assumption | omega) (lv_sub hl [2, 3, 0, 4] rfl)
  refine lv_iload_n hx hb dX2_visit_0 rfl (lv_at hl 2 rfl) ?_
  refine lv_iconst (v := 1) hx hb dX2_visit_1 (by decide) ?_
  refine lv_iload_n hx hb dX2_visit_2 rfl (lv_at hl 1 rfl) ?_
  refine lv_ishl hx hb dX2_visit_3 ?_
  refine lv_ior hx hb dX2_visit_4 ?_
  refine lv_istore_n (lv' := [(3, .int (x ||| (1 <<< (i &&& 31)))), (0, .ref (a 0)), (1, .int i), (2, .int x)]) hx hb dX2_visit_5 rfl hl (by decide) rfl (fun ls hl => ?_)
  refine lv_iconst (v := 0) hx hb dX2_visit_6 (by decide) ?_
  refine lv_istore (lv' := [(4, .int 0), (3, .int (x ||| (1 <<< (i &&& 31)))), (0, .ref (a 0)), (1, .int i), (2, .int x)]) hx hb dX2_visit_7 hl (by decide) rfl (fun ls hl => ?_)
  exact J9 (gS G) 0 ((x ||| (1 <<< (i &&& 31)))) ls (by omega) hz (by first | assumption | omega) (lv_sub hl [2, 3, 1, 0] rfl)

