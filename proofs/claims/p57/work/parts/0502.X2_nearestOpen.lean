def f_X2_nearestOpen_j47  (v2_47 : Int32) (v3_47 : Int32) : Sum (Int32) (Int32 × Int32) := (Sum.inr (v2_47, v3_47))
def f_X2_nearestOpen_l9b (Rr : GR) (x : Int32) (k9 : Nat) (v2_9 : Int32) (v3_9 : Int32) : Sum (Int32) (Int32 × Int32) := (if (f_X2_contains (x) ((nI k9))) = true then (f_X2_nearestOpen_j47 (v2_9) (v3_9)) else (if v3_9 ≤ ((rNear Rr) k9) then (f_X2_nearestOpen_j47 (v2_9) (v3_9)) else (f_X2_nearestOpen_j47 ((nI k9)) (((rNear Rr) k9)))))
def f_X2_nearestOpen_l9x (Rr : GR) (x : Int32) (v2_9 : Int32) (v3_9 : Int32) : Int32 := v2_9
def f_X2_nearestOpen_l9s (Rr : GR) (x : Int32) (k9 : Nat) (q_ : Int32 × Int32) : Sum (Int32) (Int32 × Int32) := f_X2_nearestOpen_l9b Rr x k9 (q_.1) (q_.2)
def f_X2_nearestOpen_l9e (Rr : GR) (x : Int32) (q_ : Int32 × Int32) : Int32 := f_X2_nearestOpen_l9x Rr x (q_.1) (q_.2)
def f_X2_nearestOpen_l9 (Rr : GR) (x : Int32) (n9 k9 : Nat) (v2_9 : Int32) (v3_9 : Int32) : Int32 := lpF (f_X2_nearestOpen_l9s Rr x) (f_X2_nearestOpen_l9e Rr x) n9 k9 (v2_9, v3_9)
def f_X2_nearestOpen (Rr : GR) (x : Int32) : Int32 := (f_X2_nearestOpen_l9 Rr x (8) 0 ((-1)) (1000))
set_option maxHeartbeats 4000000 in
set_option maxRecDepth 100000 in
theorem c_X2_nearestOpen (l : Launch) (D : va_G) (C : Nat → ClassId) (g : Nat → Nat) (Rr : GR) (x : Int32) : Met l yX2_nearestOpen wsX2_nearestOpen ({ frames := 1, cells := 0, slots := 0, locals := 21 } : Room) (roP [.ref (g 0), .int x] D C (grcells C g Rr)) (roO (some (.int (f_X2_nearestOpen Rr x)))) 0 0 (fun _ => False) := by
  refine Met.ofW (cc := cX2_nearestOpen) (maxL := 5) (ret := (some .int)) (by decide) rfl ?_
  intro p e s m args below meth c s₁ B hml hv
  obtain ⟨rfl, hP, hK, hE⟩ := hv
  have hx := B.exec
  have hb := B.bytes
  have hr := B.returns
  have hts := atoms_spec (ws := wsX2_nearestOpen) B.pre
  have hown : s.vm.findClass RX2 = some m.cls := findClass_of_methodNamed B.named
  have hlocks := B.notSynchronized
  have hinX2 : ∀ w ∈ u_ws RX2 TX2 3, w ∈ wsX2_nearestOpen := by decide +kernel
  have hl := lv_entry ([.ref (g 0), .int x]) (n := 5) (Nat.le_of_ble_eq_true rfl)
  rw [lg_entry_eq]
  generalize (lg_sl ([.ref (g 0), .int x]) ++ List.replicate (5 - (lg_sl ([.ref (g 0), .int x])).length) Slot.unset).toArray = ls at hl ⊢
  have hl : lv_has ls 5 [(0, .ref (g 0)), (1, .int x)] := hl
  obtain ⟨z, hz⟩ : ∃ z, z = f_X2_nearestOpen Rr x := ⟨_, rfl⟩
  rw [← hz]
  have J9 : ∀ (n9 k9 : Nat) (v2_9 : Int32) (v3_9 : Int32) (ls : Array Slot), k9 + n9 = 8 → z = f_X2_nearestOpen_l9 Rr x n9 k9 v2_9 v3_9 → lv_has ls 5 [(0, .ref (g 0)), (1, .int x), (2, .int v2_9), (3, .int v3_9), (4, .int (nI k9))] → W p l e ({ frames := 1, cells := 0, slots := 0, locals := 21 } : Room) s m ([.ref (g 0), .int x] : List Value).toArray below meth c s.heap [] 0 0 (MQ below (roO (some (.int z))) ([.ref (g 0), .int x] : List Value).toArray s 0 0 (fun _ => False)) (F0 m 9 ls []) := by
    intro n9
    induction n9 with
    | zero =>
      intro k9 v2_9 v3_9 ls hk9 hz  hl
      have hz : z = f_X2_nearestOpen_l9x Rr x v2_9 v3_9 := hz
      refine lv_iload hx hb dX2_nearestOpen_9 (lv_at hl 4 rfl) ?_
      refine lv_bipush (v := 8) hx hb dX2_nearestOpen_11 (by decide +kernel) ?_
      refine lv_icmp_ge (tgt := 53) hx hb dX2_nearestOpen_13 (by decide) (fun c_13 => ?_) (fun c_13 => absurd (by have e : (8 : Int32) = nI 8 := (by decide +kernel); rw [e]; exact nI_le (by omega) (by omega)) c_13)
      refine lv_iload_n hx hb dX2_nearestOpen_53 rfl (lv_at hl 2 rfl) ?_
      exact ro_ret hx hb hr hz dX2_nearestOpen_54 hlocks
    | succ n9 ih9 =>
      intro k9 v2_9 v3_9 ls hk9 hz9  hl
      obtain ⟨z9, hz⟩ : ∃ zz_, zz_ = f_X2_nearestOpen_l9b Rr x k9 v2_9 v3_9 := ⟨_, rfl⟩
      have hq9 : z = sE id (fun q_ => lpF (f_X2_nearestOpen_l9s Rr x) (f_X2_nearestOpen_l9e Rr x) n9 (k9 + 1) q_) z9 := by rw [hz9, hz]; rfl
      have J47 : ∀ (v2_47 : Int32) (v3_47 : Int32)  (ls : Array Slot), z9 = f_X2_nearestOpen_j47 v2_47 v3_47 → lv_has ls 5 [(0, .ref (g 0)), (1, .int x), (2, .int v2_47), (3, .int v3_47), (4, .int (nI k9))] → W p l e ({ frames := 1, cells := 0, slots := 0, locals := 21 } : Room) s m ([.ref (g 0), .int x] : List Value).toArray below meth c s.heap [] 0 0 (MQ below (roO (some (.int z))) ([.ref (g 0), .int x] : List Value).toArray s 0 0 (fun _ => False)) (F0 m 47 ls []) := by
        intro v2_47 v3_47 ls hz  hl
        refine lv_iinc (v := (nI (k9 + 1))) (lv' := [(4, .int (nI (k9 + 1))), (0, .ref (g 0)), (1, .int x), (2, .int v2_47), (3, .int v3_47)]) hx hb dX2_nearestOpen_47 hl (k := 4) rfl (by exact nI_1 _) (by decide) rfl (fun ls hl => ?_)
        refine lv_goto (tgt := 9) hx hb dX2_nearestOpen_50 (by decide) ?_
        exact ih9 (k9 + 1) (v2_47) (v3_47) ls (by omega) (by rw [hq9, hz]; rfl)  (lv_sub hl [1, 2, 3, 4, 0] rfl)
      refine lv_iload hx hb dX2_nearestOpen_9 (lv_at hl 4 rfl) ?_
      refine lv_bipush (v := 8) hx hb dX2_nearestOpen_11 (by decide +kernel) ?_
      refine lv_icmp_ge (tgt := 53) hx hb dX2_nearestOpen_13 (by decide) (fun c_13 => absurd c_13 (by have e : (8 : Int32) = nI 8 := (by decide +kernel); rw [e]; exact nI_ge (by omega) (by omega))) (fun c_13 => ?_)
      refine lv_iload_n hx hb dX2_nearestOpen_16 rfl (lv_at hl 1 rfl) ?_
      refine lv_iload hx hb dX2_nearestOpen_17 (lv_at hl 4 rfl) ?_
      refine callRo (va_runS (As := [.int x, .int (nI k9)]) (rest := []) ⟨hx, hb, hml, hown, hts⟩ (c_X2_contains l D C (x) ((nI k9))) (va_cwS 2 hts gX2_nearestOpen_X2_contains rfl rfl rfl (by decide +kernel) ⟨Nat.le_of_ble_eq_true rfl, Nat.le_of_ble_eq_true rfl⟩) (roP_s (hP.sub (ws' := ([] : va_W)) [] rfl) hK hE) rfl rfl hl.1 rfl (lv_room (Nat.le_of_ble_eq_true rfl)) dX2_nearestOpen_19 ⟨Nat.le_refl _, Nat.le_refl _⟩) ?_
      refine bif_ne (tgt := 47) hx hb dX2_nearestOpen_22 (by decide) (fun c_22 => ?_) (fun c_22 => ?_)
      · have hz := hz.trans (ifB_t c_22)
        exact J47 (v2_9) (v3_9) ls hz  (lv_sub hl [0, 1, 2, 3, 4] rfl)
      · have hz := hz.trans (ifB_f c_22)
        refine lv_aload_n hx hb dX2_nearestOpen_25 rfl (lv_at hl 0 rfl) ?_
        refine va_get (D := D) (ci := 5) (v := .ref (g 1)) (C := RX2) (T := TX2) (N := 3) hx hb hts hinX2 hown hK hP 0 rfl rfl 0 (by decide) (hts (.fieldLink RX2 9 "BridgeAuction$Graph" "nearest" "[I") (by decide +kernel)) (fun _ h9 => h9) rfl dX2_nearestOpen_26 ?_
        refine lv_iload hx hb dX2_nearestOpen_29 (lv_at hl 4 rfl) ?_
        refine ialdN (tys := tyA C) hx hb hK hP 1 0 rfl rfl (i := k9) (by omega) (by decide) dX2_nearestOpen_31 ?_
        refine lv_iload_n hx hb dX2_nearestOpen_32 rfl (lv_at hl 3 rfl) ?_
        refine lv_icmp_ge (tgt := 47) hx hb dX2_nearestOpen_33 (by decide) (fun c_33 => ?_) (fun c_33 => ?_)
        · have hz := hz.trans (if_pos c_33)
          exact J47 (v2_9) (v3_9) ls hz  (lv_sub hl [0, 1, 2, 3, 4] rfl)
        · have hz := hz.trans (if_neg c_33)
          refine lv_iload hx hb dX2_nearestOpen_36 (lv_at hl 4 rfl) ?_
          refine lv_istore_n (lv' := [(2, .int (nI k9)), (0, .ref (g 0)), (1, .int x), (3, .int v3_9), (4, .int (nI k9))]) hx hb dX2_nearestOpen_38 rfl hl (by decide) rfl (fun ls hl => ?_)
          refine lv_aload_n hx hb dX2_nearestOpen_39 rfl (lv_at hl 1 rfl) ?_
          refine va_get (D := D) (ci := 5) (v := .ref (g 1)) (C := RX2) (T := TX2) (N := 3) hx hb hts hinX2 hown hK hP 0 rfl rfl 0 (by decide) (hts (.fieldLink RX2 9 "BridgeAuction$Graph" "nearest" "[I") (by decide +kernel)) (fun _ h9 => h9) rfl dX2_nearestOpen_40 ?_
          refine lv_iload hx hb dX2_nearestOpen_43 (lv_at hl 4 rfl) ?_
          refine ialdN (tys := tyA C) hx hb hK hP 1 0 rfl rfl (i := k9) (by omega) (by decide) dX2_nearestOpen_45 ?_
          refine lv_istore_n (lv' := [(3, .int ((rNear Rr) k9)), (2, .int (nI k9)), (0, .ref (g 0)), (1, .int x), (4, .int (nI k9))]) hx hb dX2_nearestOpen_46 rfl hl (by decide) rfl (fun ls hl => ?_)
          exact J47 ((nI k9)) (((rNear Rr) k9)) ls hz  (lv_sub hl [2, 3, 1, 0, 4] rfl)
  refine lv_iconst (v := (-1)) hx hb dX2_nearestOpen_0 (by decide) ?_
  refine lv_istore_n (lv' := [(2, .int (-1)), (0, .ref (g 0)), (1, .int x)]) hx hb dX2_nearestOpen_1 rfl hl (by decide) rfl (fun ls hl => ?_)
  refine lv_sipush (v := 1000) hx hb dX2_nearestOpen_2 (by decide +kernel) ?_
  refine lv_istore_n (lv' := [(3, .int 1000), (2, .int (-1)), (0, .ref (g 0)), (1, .int x)]) hx hb dX2_nearestOpen_5 rfl hl (by decide) rfl (fun ls hl => ?_)
  refine lv_iconst (v := 0) hx hb dX2_nearestOpen_6 (by decide) ?_
  refine lv_istore (lv' := [(4, .int 0), (3, .int 1000), (2, .int (-1)), (0, .ref (g 0)), (1, .int x)]) hx hb dX2_nearestOpen_7 hl (by decide) rfl (fun ls hl => ?_)
  exact J9 (8) 0 ((-1)) (1000) ls (by omega) hz  (lv_sub hl [3, 4, 2, 1, 0] rfl)

