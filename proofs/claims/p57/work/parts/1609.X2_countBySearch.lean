def f_X2_countBySearch_j30  (v1_30 : Int32) (v2_30 : Int32) : Sum (Int32) (Int32 × Int32) := (Sum.inr (v1_30, v2_30))
def f_X2_countBySearch_l6b (G : GS) (k6 : Nat) (v1_6 : Int32) (v2_6 : Int32) : Sum (Int32) (Int32 × Int32) := (if (f_X2_contains (v2_6) ((nI k6))) = true then (f_X2_countBySearch_j30 (v1_6) (v2_6)) else (f_X2_countBySearch_j30 ((v1_6 + 1)) ((f_X2_visit8 G ((nI k6)) (v2_6)))))
def f_X2_countBySearch_l6x (G : GS) (v1_6 : Int32) (v2_6 : Int32) : Int32 := v1_6
def f_X2_countBySearch_l6s (G : GS) (k6 : Nat) (q_ : Int32 × Int32) : Sum (Int32) (Int32 × Int32) := f_X2_countBySearch_l6b G k6 (q_.1) (q_.2)
def f_X2_countBySearch_l6e (G : GS) (q_ : Int32 × Int32) : Int32 := f_X2_countBySearch_l6x G (q_.1) (q_.2)
def f_X2_countBySearch_l6 (G : GS) (n6 k6 : Nat) (v1_6 : Int32) (v2_6 : Int32) : Int32 := lpF (f_X2_countBySearch_l6s G) (f_X2_countBySearch_l6e G) n6 k6 (v1_6, v2_6)
def f_X2_countBySearch (Rr : GR) (G : GS) : Int32 := (f_X2_countBySearch_l6 G (8) 0 (0) (0))
set_option maxHeartbeats 4000000 in
set_option maxRecDepth 100000 in
theorem c_X2_countBySearch (l : Launch) (D : va_G) (C : Nat → ClassId) (g : Nat → Nat) (Rr : GR) (a : Nat → Nat) (G : GS) (hG : GSafe G) : Met l yX2_countBySearch wsX2_countBySearch ({ frames := 10, cells := 0, slots := 0, locals := 243 } : Room) (roP [.ref (a 0)] D C (grcells C g Rr ++ gcells C a G)) (roO (some (.int (f_X2_countBySearch Rr G)))) 0 0 (fun _ => False) := by
  refine Met.ofW (cc := cX2_countBySearch) (maxL := 4) (ret := (some .int)) (by decide) rfl ?_
  intro p e s m args below meth c s₁ B hml hv
  obtain ⟨rfl, hP, hK, hE⟩ := hv
  have hx := B.exec
  have hb := B.bytes
  have hr := B.returns
  have hts := atoms_spec (ws := wsX2_countBySearch) B.pre
  have hown : s.vm.findClass RX2 = some m.cls := findClass_of_methodNamed B.named
  have hlocks := B.notSynchronized
  obtain ⟨hS12, hP4, hlo, hhi⟩ := id hG
  have hl := lv_entry ([.ref (a 0)]) (n := 4) (Nat.le_of_ble_eq_true rfl)
  rw [lg_entry_eq]
  generalize (lg_sl ([.ref (a 0)]) ++ List.replicate (4 - (lg_sl ([.ref (a 0)])).length) Slot.unset).toArray = ls at hl ⊢
  have hl : lv_has ls 4 [(0, .ref (a 0))] := hl
  obtain ⟨z, hz⟩ : ∃ z, z = f_X2_countBySearch Rr G := ⟨_, rfl⟩
  rw [← hz]
  have J6 : ∀ (n6 k6 : Nat) (v1_6 : Int32) (v2_6 : Int32) (ls : Array Slot), k6 + n6 = 8 → z = f_X2_countBySearch_l6 G n6 k6 v1_6 v2_6 → lv_has ls 4 [(0, .ref (a 0)), (1, .int v1_6), (2, .int v2_6), (3, .int (nI k6))] → W p l e ({ frames := 10, cells := 0, slots := 0, locals := 243 } : Room) s m ([.ref (a 0)] : List Value).toArray below meth c s.heap [] 0 0 (MQ below (roO (some (.int z))) ([.ref (a 0)] : List Value).toArray s 0 0 (fun _ => False)) (F0 m 6 ls []) := by
    intro n6
    induction n6 with
    | zero =>
      intro k6 v1_6 v2_6 ls hk6 hz  hl
      have hz : z = f_X2_countBySearch_l6x G v1_6 v2_6 := hz
      refine lv_iload_n hx hb dX2_countBySearch_6 rfl (lv_at hl 3 rfl) ?_
      refine lv_bipush (v := 8) hx hb dX2_countBySearch_7 (by decide +kernel) ?_
      refine lv_icmp_ge (tgt := 36) hx hb dX2_countBySearch_9 (by decide) (fun c_9 => ?_) (fun c_9 => absurd (by have e : (8 : Int32) = nI 8 := (by decide +kernel); rw [e]; exact nI_le (by omega) (by omega)) c_9)
      refine lv_iload_n hx hb dX2_countBySearch_36 rfl (lv_at hl 1 rfl) ?_
      exact ro_ret hx hb hr hz dX2_countBySearch_37 hlocks
    | succ n6 ih6 =>
      intro k6 v1_6 v2_6 ls hk6 hz6  hl
      obtain ⟨z6, hz⟩ : ∃ zz_, zz_ = f_X2_countBySearch_l6b G k6 v1_6 v2_6 := ⟨_, rfl⟩
      have hq6 : z = sE id (fun q_ => lpF (f_X2_countBySearch_l6s G) (f_X2_countBySearch_l6e G) n6 (k6 + 1) q_) z6 := by rw [hz6, hz]; rfl
      have J30 : ∀ (v1_30 : Int32) (v2_30 : Int32)  (ls : Array Slot), z6 = f_X2_countBySearch_j30 v1_30 v2_30 → lv_has ls 4 [(0, .ref (a 0)), (1, .int v1_30), (2, .int v2_30), (3, .int (nI k6))] → W p l e ({ frames := 10, cells := 0, slots := 0, locals := 243 } : Room) s m ([.ref (a 0)] : List Value).toArray below meth c s.heap [] 0 0 (MQ below (roO (some (.int z))) ([.ref (a 0)] : List Value).toArray s 0 0 (fun _ => False)) (F0 m 30 ls []) := by
        intro v1_30 v2_30 ls hz  hl
        refine lv_iinc (v := (nI (k6 + 1))) (lv' := [(3, .int (nI (k6 + 1))), (0, .ref (a 0)), (1, .int v1_30), (2, .int v2_30)]) hx hb dX2_countBySearch_30 hl (k := 3) rfl (by exact nI_1 _) (by decide) rfl (fun ls hl => ?_)
        refine lv_goto (tgt := 6) hx hb dX2_countBySearch_33 (by decide) ?_
        exact ih6 (k6 + 1) (v1_30) (v2_30) ls (by omega) (by rw [hq6, hz]; rfl)  (lv_sub hl [1, 2, 3, 0] rfl)
      refine lv_iload_n hx hb dX2_countBySearch_6 rfl (lv_at hl 3 rfl) ?_
      refine lv_bipush (v := 8) hx hb dX2_countBySearch_7 (by decide +kernel) ?_
      refine lv_icmp_ge (tgt := 36) hx hb dX2_countBySearch_9 (by decide) (fun c_9 => absurd c_9 (by have e : (8 : Int32) = nI 8 := (by decide +kernel); rw [e]; exact nI_ge (by omega) (by omega))) (fun c_9 => ?_)
      refine lv_iload_n hx hb dX2_countBySearch_12 rfl (lv_at hl 2 rfl) ?_
      refine lv_iload_n hx hb dX2_countBySearch_13 rfl (lv_at hl 3 rfl) ?_
      refine callRo (va_runS (As := [.int v2_6, .int (nI k6)]) (rest := []) ⟨hx, hb, hml, hown, hts⟩ (c_X2_contains l D C (v2_6) ((nI k6))) (va_cwS 2 hts gX2_countBySearch_X2_contains rfl rfl rfl (by decide +kernel) ⟨Nat.le_of_ble_eq_true rfl, Nat.le_of_ble_eq_true rfl⟩) (roP_s (hP.sub (ws' := ([] : va_W)) [] rfl) hK hE) rfl rfl hl.1 rfl (lv_room (Nat.le_of_ble_eq_true rfl)) dX2_countBySearch_14 ⟨Nat.le_refl _, Nat.le_refl _⟩) ?_
      refine bif_ne (tgt := 30) hx hb dX2_countBySearch_17 (by decide) (fun c_17 => ?_) (fun c_17 => ?_)
      · have hz := hz.trans (ifB_t c_17)
        exact J30 (v1_6) (v2_6) ls hz  (lv_sub hl [0, 1, 2, 3] rfl)
      · have hz := hz.trans (ifB_f c_17)
        refine lv_aload_n hx hb dX2_countBySearch_20 rfl (lv_at hl 0 rfl) ?_
        refine lv_iload_n hx hb dX2_countBySearch_21 rfl (lv_at hl 3 rfl) ?_
        refine lv_iload_n hx hb dX2_countBySearch_22 rfl (lv_at hl 2 rfl) ?_
        refine callRo (va_runS (As := [.ref (a 0), .int (nI k6), .int v2_6]) (rest := []) ⟨hx, hb, hml, hown, hts⟩ (c_X2_visit8 l D C a G ((nI k6)) (v2_6) hG (by exact vp_in_nI (by omega) (by decide)) (by exact c_17) (by exact cU_8 _)) (va_cwS 3 hts gX2_countBySearch_X2_visit rfl rfl rfl (by decide +kernel) ⟨Nat.le_of_ble_eq_true rfl, Nat.le_of_ble_eq_true rfl⟩) (roP_s (hP.sub (ws' := (gcells C a G)) [4, 5, 6, 7, 8, 9, 10, 11, 12] rfl) hK hE) rfl rfl hl.1 rfl (lv_room (Nat.le_of_ble_eq_true rfl)) dX2_countBySearch_23 ⟨Nat.le_refl _, Nat.le_refl _⟩) ?_
        refine lv_istore_n (lv' := [(2, .int (f_X2_visit8 G ((nI k6)) (v2_6))), (0, .ref (a 0)), (1, .int v1_6), (3, .int (nI k6))]) hx hb dX2_countBySearch_26 rfl hl (by decide) rfl (fun ls hl => ?_)
        refine lv_iinc (v := (v1_6 + 1)) (lv' := [(1, .int (v1_6 + 1)), (2, .int (f_X2_visit8 G ((nI k6)) (v2_6))), (0, .ref (a 0)), (3, .int (nI k6))]) hx hb dX2_countBySearch_27 hl (k := 2) rfl rfl (by decide) rfl (fun ls hl => ?_)
        exact J30 ((v1_6 + 1)) ((f_X2_visit8 G ((nI k6)) (v2_6))) ls hz  (lv_sub hl [2, 0, 1, 3] rfl)
  refine lv_iconst (v := 0) hx hb dX2_countBySearch_0 (by decide) ?_
  refine lv_istore_n (lv' := [(1, .int 0), (0, .ref (a 0))]) hx hb dX2_countBySearch_1 rfl hl (by decide) rfl (fun ls hl => ?_)
  refine lv_iconst (v := 0) hx hb dX2_countBySearch_2 (by decide) ?_
  refine lv_istore_n (lv' := [(2, .int 0), (1, .int 0), (0, .ref (a 0))]) hx hb dX2_countBySearch_3 rfl hl (by decide) rfl (fun ls hl => ?_)
  refine lv_iconst (v := 0) hx hb dX2_countBySearch_4 (by decide) ?_
  refine lv_istore_n (lv' := [(3, .int 0), (2, .int 0), (1, .int 0), (0, .ref (a 0))]) hx hb dX2_countBySearch_5 rfl hl (by decide) rfl (fun ls hl => ?_)
  exact J6 (8) 0 (0) (0) ls (by omega) hz  (lv_sub hl [3, 2, 1, 0] rfl)

