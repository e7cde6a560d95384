theorem separateAll_safe {R : GR} (hR : RSafe R) : RSafe (f_X2_separateAll R) := by
  refine lpF_invN (step := f_X2_separateAll_l2s R) (ex := f_X2_separateAll_l2e R) 8 (fun _ s => ∀ j, s j < 8) RSafe ?_ ?_ ?_ 8 0 _ rfl hR
  · intro k s r _ _ h
    simp only [f_X2_separateAll_l2s, f_X2_separateAll_l2b] at h
    cases h
  · intro k s s' hk hI h
    simp only [f_X2_separateAll_l2s, f_X2_separateAll_l2b] at h
    cases h
    intro j
    show (if j = k then k else s j) < 8
    split
    · exact hk
    · exact hI j
  · intro s hI; exact hI
def f_X2_rootOf_j33  (v2_33 : Nat) : Nat := v2_33
def f_X2_rootOf_l4b (Rr : GR) (k4 : Nat) (v2_4 : Nat) : Sum (Nat) (Nat) := (if (nI ((rPar Rr) v2_4)) = (nI v2_4) then (Sum.inl (f_X2_rootOf_j33 (v2_4))) else (Sum.inr ((rPar Rr) v2_4)))
def f_X2_rootOf_l4x (Rr : GR) (v2_4 : Nat) : Nat := (f_X2_rootOf_j33 (v2_4))
def f_X2_rootOf_l4s (Rr : GR) (k4 : Nat) (q_ : Nat) : Sum (Nat) (Nat) := f_X2_rootOf_l4b Rr k4 (q_)
def f_X2_rootOf_l4e (Rr : GR) (q_ : Nat) : Nat := f_X2_rootOf_l4x Rr (q_)
def f_X2_rootOf_l4 (Rr : GR) (n4 k4 : Nat) (v2_4 : Nat) : Nat := lpF (f_X2_rootOf_l4s Rr) (f_X2_rootOf_l4e Rr) n4 k4 v2_4
def f_X2_rootOf (Rr : GR) (i : Nat) : Nat := (f_X2_rootOf_l4 Rr (8) 0 (i))
set_option maxHeartbeats 4000000 in
set_option maxRecDepth 100000 in
theorem c_X2_rootOf (l : Launch) (D : va_G) (C : Nat → ClassId) (g : Nat → Nat) (Rr : GR) (i : Nat) (hR : RSafe Rr) (h_i : i < 8) : Met l yX2_rootOf wsX2_rootOf ({ frames := 0, cells := 0, slots := 0, locals := 0 } : Room) (roP [.ref (g 0), .int (nI i)] D C (grcells C g Rr)) (roO (some (.int (nI (f_X2_rootOf Rr i))))) 0 0 (fun _ => False) := by
  refine Met.ofW (cc := cX2_rootOf) (maxL := 4) (ret := (some .int)) (by decide) rfl ?_
  intro p e s m args below meth c s₁ B hml hv
  obtain ⟨rfl, hP, hK, hE⟩ := hv
  have hx := B.exec
  have hb := B.bytes
  have hr := B.returns
  have hts := atoms_spec (ws := wsX2_rootOf) B.pre
  have hown : s.vm.findClass RX2 = some m.cls := findClass_of_methodNamed B.named
  have hlocks := B.notSynchronized
  obtain hpar := id hR
  have hinX2 : ∀ w ∈ u_ws RX2 TX2 3, w ∈ wsX2_rootOf := by decide +kernel
  have hl := lv_entry ([.ref (g 0), .int (nI i)]) (n := 4) (Nat.le_of_ble_eq_true rfl)
  rw [lg_entry_eq]
  generalize (lg_sl ([.ref (g 0), .int (nI i)]) ++ List.replicate (4 - (lg_sl ([.ref (g 0), .int (nI i)])).length) Slot.unset).toArray = ls at hl ⊢
  have hl : lv_has ls 4 [(0, .ref (g 0)), (1, .int (nI i))] := hl
  obtain ⟨z, hz⟩ : ∃ z, z = f_X2_rootOf Rr i := ⟨_, rfl⟩
  rw [← hz]
  have J33 : ∀ (v2_33 : Nat)  (ls : Array Slot), z = f_X2_rootOf_j33 v2_33 → lv_has ls 4 [(2, .int (nI v2_33))] → W p l e ({ frames := 0, cells := 0, slots := 0, locals := 0 } : Room) s m ([.ref (g 0), .int (nI i)] : List Value).toArray below meth c s.heap [] 0 0 (MQ below (roO (some (.int (nI z)))) ([.ref (g 0), .int (nI i)] : List Value).toArray s 0 0 (fun _ => False)) (F0 m 33 ls []) := by
    intro v2_33 ls hz  hl
    refine lv_iload_n hx hb dX2_rootOf_33 rfl (lv_at hl 0 rfl) ?_
    exact ro_ret hx hb hr (congrArg nI (show _ = v2_33 from hz)) dX2_rootOf_34 hlocks
  have J4 : ∀ (n4 k4 : Nat) (v2_4 : Nat) (ls : Array Slot), k4 + n4 = 8 → z = f_X2_rootOf_l4 Rr n4 k4 v2_4 → (v2_4 < 8) → lv_has ls 4 [(0, .ref (g 0)), (2, .int (nI v2_4)), (3, .int (nI k4))] → W p l e ({ frames := 0, cells := 0, slots := 0, locals := 0 } : Room) s m ([.ref (g 0), .int (nI i)] : List Value).toArray below meth c s.heap [] 0 0 (MQ below (roO (some (.int (nI z)))) ([.ref (g 0), .int (nI i)] : List Value).toArray s 0 0 (fun _ => False)) (F0 m 4 ls []) := by
    intro n4
    induction n4 with
    | zero =>
      intro k4 v2_4 ls hk4 hz iv4_0 hl
      have hz : z = f_X2_rootOf_l4x Rr v2_4 := hz
      refine lv_iload_n hx hb dX2_rootOf_4 rfl (lv_at hl 2 rfl) ?_
      refine lv_bipush (v := 8) hx hb dX2_rootOf_5 (by decide +kernel) ?_
      refine lv_icmp_ge (tgt := 33) hx hb dX2_rootOf_7 (by decide) (fun c_7 => ?_) (fun c_7 => absurd (by have e : (8 : Int32) = nI 8 := (by decide +kernel); rw [e]; exact nI_le (by omega) (by omega)) c_7)
      exact J33 (v2_4) ls hz  (lv_sub hl [1] rfl)
    | succ n4 ih4 =>
      intro k4 v2_4 ls hk4 hz4 iv4_0 hl
      obtain ⟨z4, hz⟩ : ∃ zz_, zz_ = f_X2_rootOf_l4b Rr k4 v2_4 := ⟨_, rfl⟩
      have hq4 : z = sE id (fun q_ => lpF (f_X2_rootOf_l4s Rr) (f_X2_rootOf_l4e Rr) n4 (k4 + 1) q_) z4 := by rw [hz4, hz]; rfl
      refine lv_iload_n hx hb dX2_rootOf_4 rfl (lv_at hl 2 rfl) ?_
      refine lv_bipush (v := 8) hx hb dX2_rootOf_5 (by decide +kernel) ?_
      refine lv_icmp_ge (tgt := 33) hx hb dX2_rootOf_7 (by decide) (fun c_7 => absurd c_7 (by have e : (8 : Int32) = nI 8 := (by decide +kernel); rw [e]; exact nI_ge (by omega) (by omega))) (fun c_7 => ?_)
      refine lv_aload_n hx hb dX2_rootOf_10 rfl (lv_at hl 0 rfl) ?_
      refine va_get (D := D) (ci := 5) (v := .ref (g 3)) (C := RX2) (T := TX2) (N := 3) hx hb hts hinX2 hown hK hP 0 rfl rfl 2 (by decide) (hts (.fieldLink RX2 18 "BridgeAuction$Graph" "parents" "[I") (by decide +kernel)) (fun _ h9 => h9) rfl dX2_rootOf_11 ?_
      refine lv_iload_n hx hb dX2_rootOf_14 rfl (lv_at hl 1 rfl) ?_
      refine ialdN (tys := tyA C) hx hb hK hP 3 0 rfl rfl (i := v2_4) (by omega) (by decide) dX2_rootOf_15 ?_
      have hb_1 := hpar (v2_4)
      refine lv_iload_n hx hb dX2_rootOf_16 rfl (lv_at hl 1 rfl) ?_
      refine lv_icmp_eq (tgt := 33) hx hb dX2_rootOf_17 (by decide) (fun c_17 => ?_) (fun c_17 => ?_)
      · have hz := hz.trans (if_pos c_17)
        have hz := up1 hq4 hz
        exact J33 (v2_4) ls hz  (lv_sub hl [1] rfl)
      · have hz := hz.trans (if_neg c_17)
        refine lv_aload_n hx hb dX2_rootOf_20 rfl (lv_at hl 0 rfl) ?_
        refine va_get (D := D) (ci := 5) (v := .ref (g 3)) (C := RX2) (T := TX2) (N := 3) hx hb hts hinX2 hown hK hP 0 rfl rfl 2 (by decide) (hts (.fieldLink RX2 18 "BridgeAuction$Graph" "parents" "[I") (by decide +kernel)) (fun _ h9 => h9) rfl dX2_rootOf_21 ?_
        refine lv_iload_n hx hb dX2_rootOf_24 rfl (lv_at hl 1 rfl) ?_
        refine ialdN (tys := tyA C) hx hb hK hP 3 0 rfl rfl (i := v2_4) (by omega) (by decide) dX2_rootOf_25 ?_
        have hb_2 := hpar (v2_4)
        refine lv_istore_n (lv' := [(2, .int (nI ((rPar Rr) v2_4))), (0, .ref (g 0)), (3, .int (nI k4))]) hx hb dX2_rootOf_26 rfl hl (by decide) rfl (fun ls hl => ?_)
        refine lv_iinc (v := (nI (k4 + 1))) (lv' := [(3, .int (nI (k4 + 1))), (2, .int (nI ((rPar Rr) v2_4))), (0, .ref (g 0))]) hx hb dX2_rootOf_27 hl (k := 2) rfl (by exact nI_1 _) (by decide) rfl (fun ls hl => ?_)
        refine lv_goto (tgt := 4) hx hb dX2_rootOf_30 (by decide) ?_
        exact ih4 (k4 + 1) (((rPar Rr) v2_4)) ls (by omega) (by rw [hq4, hz]; rfl) (by omega) (lv_sub hl [2, 1, 0] rfl)
  refine lv_iload_n hx hb dX2_rootOf_0 rfl (lv_at hl 1 rfl) ?_
  refine lv_istore_n (lv' := [(2, .int (nI i)), (0, .ref (g 0)), (1, .int (nI i))]) hx hb dX2_rootOf_1 rfl hl (by decide) rfl (fun ls hl => ?_)
  refine lv_iconst (v := 0) hx hb dX2_rootOf_2 (by decide) ?_
  refine lv_istore_n (lv' := [(3, .int 0), (2, .int (nI i)), (0, .ref (g 0)), (1, .int (nI i))]) hx hb dX2_rootOf_3 rfl hl (by decide) rfl (fun ls hl => ?_)
  exact J4 (8) 0 (i) ls (by omega) hz (by omega) (lv_sub hl [2, 1, 0] rfl)

