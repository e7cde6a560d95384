/-! StringBuilder.toString(): a new text -/
theorem imin_sub {c n : Nat} (hn : n ≤ c) (hc : c ≤ 34) : (if nI n < nI c - 0 then nI n else nI c - 0) = nI n := by
  rw [Int32.sub_zero]
  by_cases h : nI n < nI c
  · rw [if_pos h]
  · rw [if_neg h]
    rw [ilt, nI_toInt (by omega), nI_toInt (by omega)] at h
    congr 1
    omega
set_option maxHeartbeats 4000000 in
set_option maxRecDepth 100000 in
theorem cs_J7_checkLength_df160 (l : Launch) (D : va_G) (C : Nat → ClassId) (ev : Nat → Nat) (n : Nat) (hn : n ≤ 34) : Met l yJ7_checkLength_df160 wsJ7_checkLength_df160 ({ frames := 0, cells := 0, slots := 0, locals := 0 } : Room) (roPE [.int 0, .int (nI n)] D C ev ([] : va_W)) (roO none) 0 0 (fun _ => False) := by
  refine Met.ofW (cc := cJ7_checkLength_df160) (maxL := 2) (ret := none) (by decide) rfl ?_
  intro p e s m args below meth c s₁ B hml hv
  obtain ⟨rfl, hP, hK, hE, hR, hX⟩ := hv
  have hx := B.exec
  have hb := B.bytes
  have hr := B.returns
  have hts := atoms_spec (ws := wsJ7_checkLength_df160) B.pre
  have hown : s.vm.findClass RJ7 = some m.cls := findClass_of_methodNamed B.named
  have hlocks := B.notSynchronized
  have hl := lv_entry ([.int 0, .int (nI n)]) (n := 2) (Nat.le_of_ble_eq_true rfl)
  rw [lg_entry_eq]
  generalize (lg_sl ([.int 0, .int (nI n)]) ++ List.replicate (2 - (lg_sl ([.int 0, .int (nI n)])).length) Slot.unset).toArray = ls at hl ⊢
  have hl : lv_has ls 2 [(0, .int 0), (1, .int (nI n))] := hl
  refine lv_iload_n hx hb dJ7_checkLength_df160_0 rfl (lv_at hl 1 rfl) ?_
  refine lv_iload_n hx hb dJ7_checkLength_df160_1 rfl (lv_at hl 0 rfl) ?_
  refine lv_icmp_ge (tgt := 37) hx hb dJ7_checkLength_df160_2 (by decide) (fun _ => ?_) (fun c_2 => absurd (nI_pos' (by omega)) c_2)
  exact ro_retV hx hb hr dJ7_checkLength_df160_37 hlocks
set_option maxHeartbeats 4000000 in
set_option maxRecDepth 100000 in
theorem cs_J7_copyOfRangeByte_39247 (l : Launch) (D : va_G) (C : Nat → ClassId) (ev : Nat → Nat) (X : va_W) (r c0 n q0 : Nat) (f : Nat → Int32) (hX : X[q0]? = some (r, .inl (C 3, c0, .inl f))) (hn : n ≤ c0) (hc : c0 ≤ 34) (hf : sb_Fit f) (sz : Nat) : Met l yJ7_copyOfRangeByte_39247 wsJ7_copyOfRangeByte_39247 ({ frames := 1, cells := 1, slots := 34, locals := 60 } : Room) (rwPE [.ref r, .int 0, .int (nI n)] D C ev X sz) (eO (fun q : Nat => some (.ref q)) D (fun _ => True) (fun q => X ++ [(q, .inl (C 3, n, .inl (va_cpy f (fun _ => 0) 0 0 n)))]) (va_A X sz)) 1 34 (va_A X sz) := by
  refine Met.ofW (cc := cJ7_copyOfRangeByte_39247) (maxL := 5) (ret := some (.array .byte)) (by decide) rfl ?_
  intro p e s m args below meth c s₁ B hml hv
  obtain ⟨rfl, hsz, hP, hK, hD0, hE, hR, hX9⟩ := hv
  have hx := B.exec
  have hb := B.bytes
  have hr := B.returns
  have hts := atoms_spec (ws := wsJ7_copyOfRangeByte_39247) B.pre
  have hown : s.vm.findClass RJ7 = some m.cls := findClass_of_methodNamed B.named
  have hlocks := B.notSynchronized
  subst hsz
  have hD := hD0.self (sz := s.heap.size)
  generalize hAe : va_A (X) s.heap.size = A at hD hX9 ⊢
  have hA : ∀ q : Nat, s.heap.size ≤ q → A q := fun q h => by rw [← hAe]; exact Or.inr h
  have hS0 : va_S A s.heap s.heap [] := va_S.rf
  have hP : va_P D vwCl (X) s.heap := hP
  have hS := hS0
  have hl := lv_entry ([.ref r, .int 0, .int (nI n)]) (n := 5) (Nat.le_of_ble_eq_true rfl)
  rw [lg_entry_eq]
  generalize (lg_sl ([.ref r, .int 0, .int (nI n)]) ++ List.replicate (5 - (lg_sl ([.ref r, .int 0, .int (nI n)])).length) Slot.unset).toArray = ls at hl ⊢
  have hl : lv_has ls 5 [(0, .ref r), (1, .int 0), (2, .int (nI n))] := hl
  refine lv_iload_n hx hb dJ7_copyOfRangeByte_39247_0 rfl (lv_at hl 1 rfl) ?_
  refine lv_iload_n hx hb dJ7_copyOfRangeByte_39247_1 rfl (lv_at hl 2 rfl) ?_
  refine callRo (va_runS (As := [.int 0, .int (nI n)]) (rest := []) ⟨hx, hb, hml, hown, hts⟩ (cs_J7_checkLength_df160 l D C ev n (by omega)) (va_cwS 2 hts gJ7_copyOfRangeByte_39247_J7_checkLength_df160 rfl rfl rfl (by decide +kernel) ⟨Nat.le_of_ble_eq_true rfl, Nat.le_of_ble_eq_true rfl⟩) (roPE_s (hP.sub (ws' := ([] : va_W)) [] rfl) hK hE hR hX9 hS) rfl rfl hl.1 rfl (lv_room (Nat.le_of_ble_eq_true rfl)) dJ7_copyOfRangeByte_39247_2 ⟨Nat.zero_le _, Nat.zero_le _⟩) ?_
  refine lv_iload_n hx hb dJ7_copyOfRangeByte_39247_5 rfl (lv_at hl 2 rfl) ?_
  refine lv_iload_n hx hb dJ7_copyOfRangeByte_39247_6 rfl (lv_at hl 1 rfl) ?_
  refine lv_isub hx hb dJ7_copyOfRangeByte_39247_7 ?_
  refine topI (y := nI n) (Int32.sub_zero _) ?_
  refine lv_istore_n (lv' := [(3, .int (nI n)), (0, .ref r), (1, .int 0), (2, .int (nI n))]) hx hb dJ7_copyOfRangeByte_39247_8 rfl hl (by decide) rfl (fun ls hl => ?_)
  refine lv_iload_n hx hb dJ7_copyOfRangeByte_39247_9 rfl (lv_at hl 0 rfl) ?_
  refine va_newa (atype := .byte) (ty := .byte) (N' := n) (a0 := (n, .inl (fun _ => 0))) hx hb (hts (.arrayClass .byte) (by decide +kernel)) rfl hK hP hD hS hA (fun _ => rfl) (nI_pos (by omega)) (nI_clamp (by omega)) (by show n * 1 ≤ _; omega) (Nat.le_of_ble_eq_true rfl) (by show 0 + n ≤ 34; omega) dJ7_copyOfRangeByte_39247_10 (fun q cA H hK9 hP hD hS => ?_)
  obtain rfl : cA = C 3 := cls_same hK9 (i := 6) (j := 3) rfl rfl
  refine lv_astore (lv' := [(4, .ref q), (3, .int (nI n)), (0, .ref r), (1, .int 0), (2, .int (nI n))]) hx hb dJ7_copyOfRangeByte_39247_12 hl (by decide) rfl (fun ls hl => ?_)
  have hXa : (X ++ [(q, .inl (C 3, n, .inl (fun _ => (0 : Int32))))])[q0]? = some (r, .inl (C 3, c0, .inl f)) := by
    rw [List.getElem?_append_left (List.getElem?_eq_some_iff.mp hX).1]; exact hX
  have hXb : (X ++ [(q, .inl (C 3, n, .inl (fun _ => (0 : Int32))))])[X.length]? = some (q, .inl (C 3, n, .inl (fun _ => 0))) := by
    rw [List.getElem?_append_right (Nat.le_refl _), Nat.sub_self]; rfl
  refine lv_aload_n hx hb dJ7_copyOfRangeByte_39247_14 rfl (lv_at hl 2 rfl) ?_
  refine lv_iload_n hx hb dJ7_copyOfRangeByte_39247_15 rfl (lv_at hl 3 rfl) ?_
  refine lv_aload hx hb dJ7_copyOfRangeByte_39247_16 (lv_at hl 0 rfl) ?_
  refine lv_iconst (v := 0) hx hb dJ7_copyOfRangeByte_39247_18 (by decide) ?_
  refine lv_aload_n hx hb dJ7_copyOfRangeByte_39247_19 rfl (lv_at hl 2 rfl) ?_
  refine va_alen (v := nI c0) hx hb hK hP q0 3 hXa rfl rfl dJ7_copyOfRangeByte_39247_20 ?_
  refine lv_iload_n hx hb dJ7_copyOfRangeByte_39247_21 rfl (lv_at hl 3 rfl) ?_
  refine lv_isub hx hb dJ7_copyOfRangeByte_39247_22 ?_
  refine lv_iload_n hx hb dJ7_copyOfRangeByte_39247_23 rfl (lv_at hl 1 rfl) ?_
  refine va_mmin hx hb (hml.trans hl.1.symm) hown (hts (.methodLink RJ7 304 Lib.Math.min.name) (by decide +kernel)) (hts (.static Lib.Math.min.name) (by decide +kernel)) (hts (.initialized "java/lang/Math") (by decide +kernel)) (hts (.code Lib.Math.min.name Lib.Math.min.code 2 (some .int)) (by decide +kernel)) (Nat.le_of_ble_eq_true rfl) (Nat.le_of_ble_eq_true rfl) (Nat.le_of_ble_eq_true rfl) (show 0 + n ≤ 34 from by omega) dJ7_copyOfRangeByte_39247_24 ?_
  refine topI (y := nI n) (imin_sub hn hc) ?_
  refine va_copyi (sp := 0) (dp := 0) (n := nI n) hx hb (hml.trans hl.1.symm) hown (hts (.methodLink RJ7 150 arraycopyName) (by decide +kernel)) (hts (.native arraycopyName) (by decide +kernel)) (hts (.static arraycopyName) (by decide +kernel)) (hts (.initialized "java/lang/System") (by decide +kernel)) hK hP hD hS q0 X.length 3 3 hXa hXb rfl rfl rfl (by decide) (by decide) (nI_pos (by omega)) (by rw [sb_cl0, nI_clamp (by omega)]; omega) (by rw [sb_cl0, nI_clamp (by omega)]; omega) (fun i _ => hf _) (Nat.le_of_ble_eq_true rfl) (Nat.le_of_ble_eq_true rfl) dJ7_copyOfRangeByte_39247_27 (fun H locs hP hD hS => ?_)
  have e9 : List.set (α := Nat × va_E) (X ++ [(q, .inl (C 3, n, .inl (fun _ => (0 : Int32))))]) X.length (q, .inl (C 3, n, .inl (va_cpy f (fun _ => 0) (0 : Int32).toNatClampNeg (0 : Int32).toNatClampNeg (nI n).toNatClampNeg))) = X ++ [(q, .inl (C 3, n, .inl (va_cpy f (fun _ => 0) 0 0 n)))] := by
    rw [List.set_append_right _ _ (Nat.le_refl _), Nat.sub_self, sb_cl0, nI_clamp (by omega)]; rfl
  rw [e9] at hP hD
  refine lv_aload hx hb dJ7_copyOfRangeByte_39247_30 (lv_at hl 0 rfl) ?_
  exact e_retB q rfl hx hb hr trivial hP hD hS (Nat.le_of_ble_eq_true rfl) (by show 0 + n ≤ 34; omega) dJ7_copyOfRangeByte_39247_32 hlocks
theorem fit_cell {cA : ClassId} {n : Nat} {f : Nat → Int32} (hf : sb_Fit f) : ∀ (i : Nat) (v : Value), (vp_cell cA (n, .inl f)).slots[i]? = some v → fits .byte v = true := by
  intro i v h
  have hs : (vp_cell cA (n, .inl f)).slots.size = n := arrV_size _ _ _
  have hi : i < n := by
    have := (Array.getElem?_eq_some_iff.mp h).1
    rw [hs] at this
    exact this
  have e : (vp_cell cA (n, .inl f)).slots[i]? = some (.int (f i)) := arrV_read _ _ hi
  rw [e] at h
  cases h
  exact hf i
set_option maxHeartbeats 4000000 in
set_option maxRecDepth 100000 in
theorem cs_J7_copyOfRange_39247 (l : Launch) (D : va_G) (C : Nat → ClassId) (ev : Nat → Nat) (X : va_W) (r c0 n q0 : Nat) (f : Nat → Int32) (hX : X[q0]? = some (r, .inl (C 3, c0, .inl f))) (hn : n ≤ c0) (hc : c0 ≤ 34) (hf : sb_Fit f) (sz : Nat) : Met l yJ7_copyOfRange_39247 wsJ7_copyOfRange_39247 ({ frames := 2, cells := 1, slots := 34, locals := 90 } : Room) (rwPE [.ref r, .int 0, .int (nI n)] D C ev X sz) (eO (fun x : Nat × (Nat → Int32) => some (.ref x.1)) D (fun x : Nat × (Nat → Int32) => (∀ j, j < n → x.2 j = f j) ∧ sb_Fit x.2) (fun x => X ++ [(x.1, .inl (C 3, n, .inl x.2))]) (va_A X sz)) 1 34 (va_A X sz) := by
  refine Met.ofW (cc := cJ7_copyOfRange_39247) (maxL := 3) (ret := some (.array .byte)) (by decide) rfl ?_
  intro p e s m args below meth c s₁ B hml hv
  obtain ⟨rfl, hsz, hP, hK, hD0, hE, hR, hX9⟩ := hv
  have hx := B.exec
  have hb := B.bytes
  have hr := B.returns
  have hts := atoms_spec (ws := wsJ7_copyOfRange_39247) B.pre
  have hown : s.vm.findClass RJ7 = some m.cls := findClass_of_methodNamed B.named
  have hlocks := B.notSynchronized
  subst hsz
  have hD := hD0.self (sz := s.heap.size)
  generalize hAe : va_A (X) s.heap.size = A at hD hX9 ⊢
  have hA : ∀ q : Nat, s.heap.size ≤ q → A q := fun q h => by rw [← hAe]; exact Or.inr h
  have hS0 : va_S A s.heap s.heap [] := va_S.rf
  have hP : va_P D vwCl (X) s.heap := hP
  have hS := hS0
  have hl := lv_entry ([.ref r, .int 0, .int (nI n)]) (n := 3) (Nat.le_of_ble_eq_true rfl)
  rw [lg_entry_eq]
  generalize (lg_sl ([.ref r, .int 0, .int (nI n)]) ++ List.replicate (3 - (lg_sl ([.ref r, .int 0, .int (nI n)])).length) Slot.unset).toArray = ls at hl ⊢
  have hl : lv_has ls 3 [(0, .ref r), (1, .int 0), (2, .int (nI n))] := hl
  refine lv_iload_n hx hb dJ7_copyOfRange_39247_0 rfl (lv_at hl 1 rfl) ?_
  refine lv_if_ne (tgt := 10) hx hb dJ7_copyOfRange_39247_1 (by decide) (fun c_1 => absurd rfl c_1) (fun _ => ?_)
  refine lv_iload_n hx hb dJ7_copyOfRange_39247_4 rfl (lv_at hl 2 rfl) ?_
  refine lv_aload_n hx hb dJ7_copyOfRange_39247_5 rfl (lv_at hl 0 rfl) ?_
  refine va_alen (v := nI c0) hx hb hK hP q0 3 hX rfl rfl dJ7_copyOfRange_39247_6 ?_
  refine lv_icmp_eq (tgt := 17) hx hb dJ7_copyOfRange_39247_7 (by decide) (fun c_7 => ?_) (fun c_7 => ?_)
  · have e7 : n = c0 := (nI_eq (by omega) (by omega)).mp c_7
    subst e7
    refine lv_aload_n hx hb dJ7_copyOfRange_39247_17 rfl (lv_at hl 0 rfl) ?_
    refine va_clone (ad := "[B") hx hb (hml.trans hl.1.symm) hown (hts (.methodLink RJ7 310 ⟨"[B", "clone", "()Ljava/lang/Object;"⟩) (by decide +kernel)) (hts (.sameMethod "[B" "java/lang/Object" "clone" "()Ljava/lang/Object;") (by decide +kernel)) (hts (.native ⟨"java/lang/Object", "clone", "()Ljava/lang/Object;"⟩) (by decide +kernel)) (hts (.instanceMethod ⟨"java/lang/Object", "clone", "()Ljava/lang/Object;"⟩) (by decide +kernel)) (hts (.selects "[B" ⟨"[B", "clone", "()Ljava/lang/Object;"⟩ ⟨"java/lang/Object", "clone", "()Ljava/lang/Object;"⟩) (by decide +kernel)) hR.2.2 hK hP hD hS hA q0 3 hX rfl (hK.2 3 _ rfl).2 (fit_cell hf) (Nat.le_of_ble_eq_true rfl) (Nat.le_of_ble_eq_true rfl) (Nat.le_of_ble_eq_true rfl) (by show 0 + n ≤ 34; omega) dJ7_copyOfRange_39247_18 (fun q H hK9 hP hD hS => ?_)
    refine va_castA (nm := "[B") hx hb hown (hts (.classLink RJ7 311 "[B") (by decide +kernel)) hP X.length (by rw [List.getElem?_append_right (Nat.le_refl _), Nat.sub_self]; rfl) (hK.2 3 _ rfl).2 dJ7_copyOfRange_39247_21 ?_
    exact e_retB (q, f) rfl hx hb hr ⟨fun _ _ => rfl, hf⟩ hP hD hS (Nat.le_of_ble_eq_true rfl) (by show 0 + n ≤ 34; omega) dJ7_copyOfRange_39247_24 hlocks
  · refine lv_aload_n hx hb dJ7_copyOfRange_39247_10 rfl (lv_at hl 0 rfl) ?_
    refine lv_iload_n hx hb dJ7_copyOfRange_39247_11 rfl (lv_at hl 1 rfl) ?_
    refine lv_iload_n hx hb dJ7_copyOfRange_39247_12 rfl (lv_at hl 2 rfl) ?_
    have hFc : ∀ q, va_A X _ q → A q := all_F hD hS hA
    refine callE (va_runS (As := [.ref r, .int 0, .int (nI n)]) (rest := []) ⟨hx, hb, hml, hown, hts⟩ (cs_J7_copyOfRangeByte_39247 l D C ev X r c0 n q0 f hX hn hc hf _) (va_cwS 3 hts gJ7_copyOfRange_39247_J7_copyOfRangeByte_39247 rfl rfl rfl (by decide +kernel) ⟨Nat.le_of_ble_eq_true rfl, Nat.le_of_ble_eq_true rfl⟩) (rwPE_s hP hK hE hD hR hX9 hS hFc) rfl rfl hl.1 rfl (lv_room (Nat.le_of_ble_eq_true rfl)) dJ7_copyOfRange_39247_13 ⟨Nat.le_of_ble_eq_true rfl, Nat.le_of_ble_eq_true rfl⟩) hS hFc (fun q H1 locs hF1 hPn hDn hk hS => ?_)
    exact e_retB (q, va_cpy f (fun _ => 0) 0 0 n) rfl hx hb hr ⟨fun j hj => (show va_cpy f (fun _ => 0) 0 0 n j = f j from sb_cpy0 hj), sb_fitC hf sb_fit0⟩ hPn (hDn.weaken (fun _ x _ h => hFc x.1 h)) hS (Nat.le_of_ble_eq_true rfl) (Nat.le_of_ble_eq_true rfl) dJ7_copyOfRange_39247_16 hlocks
set_option maxHeartbeats 4000000 in
set_option maxRecDepth 100000 in
theorem cs_J5_getValue_6d5f1 (l : Launch) (D : va_G) (C : Nat → ClassId) (ev : Nat → Nat) (b : Nat → Nat) (O : OS) : Met l yJ5_getValue_6d5f1 wsJ5_getValue_6d5f1 ({ frames := 0, cells := 0, slots := 0, locals := 0 } : Room) (roPE [.ref (b 0)] D C ev (ocells C b O)) (roO (some (.ref (oV O)))) 0 0 (fun _ => False) := by
  refine Met.ofW (cc := cJ5_getValue_6d5f1) (maxL := 1) (ret := some (.array .byte)) (by decide) rfl ?_
  intro p e s m args below meth c s₁ B hml hv
  obtain ⟨rfl, hP, hK, hE, hR, hX⟩ := hv
  have hx := B.exec
  have hb := B.bytes
  have hr := B.returns
  have hts := atoms_spec (ws := wsJ5_getValue_6d5f1) B.pre
  have hown : s.vm.findClass RJ5 = some m.cls := findClass_of_methodNamed B.named
  have hlocks := B.notSynchronized
  have hS : va_S (fun _ => False) s.heap s.heap [] := va_S.rf
  have hinJ4 : ∀ w ∈ u_ws RJ4 TJ4 4, w ∈ wsJ5_getValue_6d5f1 := by decide +kernel
  have hl := lv_entry ([.ref (b 0)]) (n := 1) (Nat.le_of_ble_eq_true rfl)
  rw [lg_entry_eq]
  generalize (lg_sl ([.ref (b 0)]) ++ List.replicate (1 - (lg_sl ([.ref (b 0)])).length) Slot.unset).toArray = ls at hl ⊢
  have hl : lv_has ls 1 [(0, .ref (b 0))] := hl
  refine lv_aload_n hx hb dJ5_getValue_6d5f1_0 rfl (lv_at hl 0 rfl) ?_
  refine va_get (D := D) (ci := 1) (v := .ref (oV O)) (C := RJ4) (T := TJ4) (N := 4) hx hb hts hinJ4 hown hK hP 0 rfl rfl 0 (by decide) (hts (.fieldLink RJ5 15 "java/lang/AbstractStringBuilder" "value" "[B") (by decide +kernel)) (fun _ h9 => h9) rfl dJ5_getValue_6d5f1_1 ?_
  exact W.aret (v := .ref (oV O)) hx hb hr (Or.inr ⟨_, rfl⟩) (Or.inr ⟨_, rfl⟩) (fun t ht hW => ⟨rfl, ht⟩) (fun q hq => absurd hq List.not_mem_nil) dJ5_getValue_6d5f1_4 hlocks
set_option maxHeartbeats 4000000 in
set_option maxRecDepth 100000 in
theorem cs_J0_init_db425 (l : Launch) (D : va_G) (C : Nat → ClassId) (ev : Nat → Nat) (b : Nat → Nat) (T : TX) (O : OS) (hO : OT T O) (o : Nat) (sz : Nat) : Met l yJ0_init_db425 wsJ0_init_db425 ({ frames := 3, cells := 1, slots := 34, locals := 130 } : Room) (rwPE [.ref o, .ref (b 0), .null] D C ev (ocells C b O ++ [(o, .inr (0, [.null, .int 0, .int 0, .int 0]))]) sz) (eO (fun _ : Nat × (Nat → Int32) => none) D (fun x : Nat × (Nat → Int32) => (∀ j, j < T.2 → x.2 j = sb_b (T.1 j)) ∧ sb_Fit x.2) (fun x => ocells C b O ++ tcel C o x.1 T.2 (.int 0) (.int 0) x.2) (va_A (ocells C b O ++ [(o, .inr (0, [.null, .int 0, .int 0, .int 0]))]) sz)) 1 34 (va_A (ocells C b O ++ [(o, .inr (0, [.null, .int 0, .int 0, .int 0]))]) sz) := by
  refine Met.ofW (cc := cJ0_init_db425) (maxL := 5) (ret := none) (by decide) rfl ?_
  intro p e s m args below meth c s₁ B hml hv
  obtain ⟨rfl, hsz, hP, hK, hD0, hE, hR, hX9⟩ := hv
  have hx := B.exec
  have hb := B.bytes
  have hr := B.returns
  have hts := atoms_spec (ws := wsJ0_init_db425) B.pre
  have hown : s.vm.findClass RJ0 = some m.cls := findClass_of_methodNamed B.named
  have hlocks := B.notSynchronized
  subst hsz
  have hD := hD0.self (sz := s.heap.size)
  generalize hAe : va_A (ocells C b O ++ [(o, .inr (0, [.null, .int 0, .int 0, .int 0]))]) s.heap.size = A at hD hX9 ⊢
  have hA : ∀ q : Nat, s.heap.size ≤ q → A q := fun q h => by rw [← hAe]; exact Or.inr h
  have hS0 : va_S A s.heap s.heap [] := va_S.rf
  have hP : va_P D vwCl (ocells C b O ++ [(o, .inr (0, [.null, .int 0, .int 0, .int 0]))]) s.heap := hP
  have hS := hS0
  have hinJ0 : ∀ w ∈ u_ws RJ0 TJ0 4, w ∈ wsJ0_init_db425 := by decide +kernel
  have hin2 : meth.name = "<init>" := (name_of_methodNamed B.named B.method).1
  obtain ⟨hn1, hn2, hlat, hfit, hc, hn3, -⟩ := id hO
  have hc34 : oC O ≤ 34 := by rcases hc with h | h <;> omega
  have hl := lv_entry ([.ref o, .ref (b 0), .null]) (n := 5) (Nat.le_of_ble_eq_true rfl)
  rw [lg_entry_eq]
  generalize (lg_sl ([.ref o, .ref (b 0), .null]) ++ List.replicate (5 - (lg_sl ([.ref o, .ref (b 0), .null])).length) Slot.unset).toArray = ls at hl ⊢
  have hl : lv_has ls 5 [(0, .ref o), (1, .ref (b 0)), (2, .null)] := hl
  refine lv_aload_n hx hb dJ0_init_db425_0 rfl (lv_at hl 0 rfl) ?_
  refine W.objInit hx hb hown (hts (.methodLink RJ0 1 objectInit) (by decide +kernel)) (hts (.instanceMethod objectInit) (by decide +kernel)) (hts (.code objectInit ⟨#[0xb1]⟩ 1 none) (by decide +kernel)) rfl (hl.1.trans hml.symm) rfl dJ0_init_db425_1 (Nat.le_of_ble_eq_true rfl) (Nat.le_of_ble_eq_true rfl) ?_
  refine lv_aload_n hx hb dJ0_init_db425_4 rfl (lv_at hl 1 rfl) ?_
  refine callRo (va_runU (As := []) (rest := []) ⟨hx, hb, hml, hown, hts⟩ (cs_J5_getValue_6d5f1 l D C ev b O) (va_cwU 0 hts gJ0_init_db425_J5_getValue_6d5f1_u552J4 rfl rfl rfl rfl (by decide +kernel) ⟨Nat.le_of_ble_eq_true rfl, Nat.le_of_ble_eq_true rfl⟩) (roPE_v (hP.sub (ws' := ocells C b O) [0, 1] rfl) hK hE hR hX9 hS (va_recv hK (hP.sub (ws' := ocells C b O) [0, 1] rfl) (ci := 1) (q0 := 0) rfl rfl)) rfl rfl hl.1 rfl (lv_room (Nat.le_of_ble_eq_true rfl)) dJ0_init_db425_5 ⟨Nat.zero_le _, Nat.zero_le _⟩) ?_
  refine lv_astore_n (lv' := [(3, .ref (oV O)), (0, .ref o), (1, .ref (b 0)), (2, .null)]) hx hb dJ0_init_db425_8 rfl hl (by decide) rfl (fun ls hl => ?_)
  have hl := lv_sub hl [0, 1, 2] rfl
  refine lv_aload_n hx hb dJ0_init_db425_9 rfl (lv_at hl 2 rfl) ?_
  refine callRo (va_runU (As := []) (rest := []) ⟨hx, hb, hml, hown, hts⟩ (c_J4_length_8abf5 l D C ev b O) (va_cwO 0 hts gJ0_init_db425_J4_length_8abf5_u549J4 rfl rfl rfl (b0 := cJ5_length_8abf5) (m0 := 1) (r0 := some .int) (by decide +kernel) (by decide +kernel) ⟨Nat.le_of_ble_eq_true rfl, Nat.le_of_ble_eq_true rfl⟩) (roPE_v (hP.sub (ws' := ocells C b O) [0, 1] rfl) hK hE hR hX9 hS (va_recv hK (hP.sub (ws' := ocells C b O) [0, 1] rfl) (ci := 1) (q0 := 0) rfl rfl)) rfl rfl hl.1 rfl (lv_room (Nat.le_of_ble_eq_true rfl)) dJ0_init_db425_10 ⟨Nat.zero_le _, Nat.zero_le _⟩) ?_
  refine topI (y := nI T.2) (by rw [hn1]) ?_
  refine lv_istore (lv' := [(4, .int (nI T.2)), (3, .ref (oV O)), (0, .ref o), (1, .ref (b 0))]) hx hb dJ0_init_db425_13 hl (by decide) rfl (fun ls hl => ?_)
  refine lv_aload_n hx hb dJ0_init_db425_15 rfl (lv_at hl 3 rfl) ?_
  refine callRo (va_runU (As := []) (rest := []) ⟨hx, hb, hml, hown, hts⟩ (c_J5_isLatin1_aae02 l D C ev b O) (va_cwU 0 hts gJ0_init_db425_J5_isLatin1_aae02_u1047J4 rfl rfl rfl rfl (by decide +kernel) ⟨Nat.le_of_ble_eq_true rfl, Nat.le_of_ble_eq_true rfl⟩) (roPE_v (hP.sub (ws' := ocells C b O) [0, 1] rfl) hK hE hR hX9 hS (va_recv hK (hP.sub (ws' := ocells C b O) [0, 1] rfl) (ci := 1) (q0 := 0) rfl rfl)) rfl rfl hl.1 rfl (lv_room (Nat.le_of_ble_eq_true rfl)) dJ0_init_db425_16 ⟨Nat.zero_le _, Nat.zero_le _⟩) ?_
  refine bif_eq (tgt := 41) hx hb dJ0_init_db425_19 (show ((19 : Nat) : Int) + 22 = 41 from by decide) (fun c_19 => absurd c_19 (by decide)) (fun _ => ?_)
  refine lv_aload_n hx hb dJ0_init_db425_22 rfl (lv_at hl 2 rfl) ?_
  refine lv_iconst (v := 0) hx hb dJ0_init_db425_23 (by decide) ?_
  refine va_putF (D := D) (ci := 0) (v := .int 0) (ty := .byte) (C := RJ0) (T := TJ0) (N := 4) hx hb hts hinJ0 tyJ0 tyJ0_ok nmJ0 hown hK hP hD hS 2 rfl rfl 1 (by decide) (hts (.fieldLink RJ0 15 "java/lang/String" "coder" "B") (by decide +kernel)) (fun _ h9 => h9) rfl hin2 rfl (by decide +kernel) rfl rfl (Nat.le_of_ble_eq_true rfl) dJ0_init_db425_24 (fun H locs hP hD hS => ?_)
  have hP : va_P D vwCl (ocells C b O ++ [(o, .inr (0, [.null, .int 0, .int 0, .int 0]))]) H := hP
  have hD : va_D A (ocells C b O ++ [(o, .inr (0, [.null, .int 0, .int 0, .int 0]))]) := hD
  refine lv_aload_n hx hb dJ0_init_db425_27 rfl (lv_at hl 2 rfl) ?_
  refine lv_aload_n hx hb dJ0_init_db425_28 rfl (lv_at hl 1 rfl) ?_
  refine lv_iconst (v := 0) hx hb dJ0_init_db425_29 (by decide) ?_
  refine lv_iload hx hb dJ0_init_db425_30 (lv_at hl 0 rfl) ?_
  have hFc : ∀ q, va_A (ocells C b O ++ [(o, .inr (0, [.null, .int 0, .int 0, .int 0]))]) _ q → A q := all_F hD hS hA
  refine callE (va_runS (As := [.ref (oV O), .int 0, .int (nI T.2)]) (rest := [.ref o]) ⟨hx, hb, hml, hown, hts⟩ (cs_J7_copyOfRange_39247 l D C ev (ocells C b O ++ [(o, .inr (0, [.null, .int 0, .int 0, .int 0]))]) (oV O) (oC O) T.2 1 (oB O) rfl hn3 hc34 hfit _) (va_cwS 3 hts gJ0_init_db425_J7_copyOfRange_39247 rfl rfl rfl (by decide +kernel) ⟨Nat.le_of_ble_eq_true rfl, Nat.le_of_ble_eq_true rfl⟩) (rwPE_s hP hK hE hD hR hX9 hS hFc) rfl rfl hl.1 rfl (lv_room (Nat.le_of_ble_eq_true rfl)) dJ0_init_db425_32 ⟨Nat.le_of_ble_eq_true rfl, Nat.le_of_ble_eq_true rfl⟩) hS hFc (fun x H1 locs hF1 hPn hDn hk hS => ?_)
  have hP : va_P D vwCl ((ocells C b O ++ [(o, .inr (0, [.null, .int 0, .int 0, .int 0]))]) ++ [(x.1, .inl (C 3, T.2, .inl x.2))]) H1 := hPn
  have hD : va_D A ((ocells C b O ++ [(o, .inr (0, [.null, .int 0, .int 0, .int 0]))]) ++ [(x.1, .inl (C 3, T.2, .inl x.2))]) := hDn.weaken (fun _ x _ h => hFc x.1 h)
  refine va_putF (D := D) (ci := 0) (v := .ref x.1) (ty := (.array .byte)) (C := RJ0) (T := TJ0) (N := 4) hx hb hts hinJ0 tyJ0 tyJ0_ok nmJ0 hown hK hP hD hS 2 rfl rfl 0 (by decide) (hts (.fieldLink RJ0 9 "java/lang/String" "value" "[B") (by decide +kernel)) (fun _ h9 => h9) rfl hin2 rfl (by decide +kernel) rfl rfl (Nat.le_of_ble_eq_true rfl) dJ0_init_db425_35 (fun H locs hP hD hS => ?_)
  have hP : va_P D vwCl (ocells C b O ++ tcel C o x.1 T.2 (.int 0) (.int 0) x.2) H := hP
  have hD : va_D A (ocells C b O ++ tcel C o x.1 T.2 (.int 0) (.int 0) x.2) := hD
  refine lv_goto (tgt := 97) hx hb dJ0_init_db425_38 (show ((38 : Nat) : Int) + 59 = 97 from by decide) ?_
  exact e_retN x rfl hx hb hr ⟨fun j hj => (hF1.1 j hj).trans (hlat j hj).2, hF1.2⟩ hP hD hS (Nat.le_of_ble_eq_true rfl) (Nat.le_of_ble_eq_true rfl) dJ0_init_db425_97 hlocks
set_option maxHeartbeats 4000000 in
set_option maxRecDepth 100000 in
theorem cs_J0_init_81219 (l : Launch) (D : va_G) (C : Nat → ClassId) (ev : Nat → Nat) (b : Nat → Nat) (T : TX) (O : OS) (hO : OT T O) (o : Nat) (sz : Nat) : Met l yJ0_init_81219 wsJ0_init_81219 ({ frames := 4, cells := 1, slots := 34, locals := 160 } : Room) (rwPE [.ref o, .ref (b 0)] D C ev (ocells C b O ++ [(o, .inr (0, [.null, .int 0, .int 0, .int 0]))]) sz) (eO (fun _ : Nat × (Nat → Int32) => none) D (fun x : Nat × (Nat → Int32) => (∀ j, j < T.2 → x.2 j = sb_b (T.1 j)) ∧ sb_Fit x.2) (fun x => ocells C b O ++ tcel C o x.1 T.2 (.int 0) (.int 0) x.2) (va_A (ocells C b O ++ [(o, .inr (0, [.null, .int 0, .int 0, .int 0]))]) sz)) 1 34 (va_A (ocells C b O ++ [(o, .inr (0, [.null, .int 0, .int 0, .int 0]))]) sz) := by
  refine Met.ofW (cc := cJ0_init_81219) (maxL := 2) (ret := none) (by decide) rfl ?_
  intro p e s m args below meth c s₁ B hml hv
  obtain ⟨rfl, hsz, hP, hK, hD0, hE, hR, hX9⟩ := hv
  have hx := B.exec
  have hb := B.bytes
  have hr := B.returns
  have hts := atoms_spec (ws := wsJ0_init_81219) B.pre
  have hown : s.vm.findClass RJ0 = some m.cls := findClass_of_methodNamed B.named
  have hlocks := B.notSynchronized
  subst hsz
  have hD := hD0.self (sz := s.heap.size)
  generalize hAe : va_A (ocells C b O ++ [(o, .inr (0, [.null, .int 0, .int 0, .int 0]))]) s.heap.size = A at hD hX9 ⊢
  have hA : ∀ q : Nat, s.heap.size ≤ q → A q := fun q h => by rw [← hAe]; exact Or.inr h
  have hS0 : va_S A s.heap s.heap [] := va_S.rf
  have hP : va_P D vwCl (ocells C b O ++ [(o, .inr (0, [.null, .int 0, .int 0, .int 0]))]) s.heap := hP
  have hS := hS0
  have hl := lv_entry ([.ref o, .ref (b 0)]) (n := 2) (Nat.le_of_ble_eq_true rfl)
  rw [lg_entry_eq]
  generalize (lg_sl ([.ref o, .ref (b 0)]) ++ List.replicate (2 - (lg_sl ([.ref o, .ref (b 0)])).length) Slot.unset).toArray = ls at hl ⊢
  have hl : lv_has ls 2 [(0, .ref o), (1, .ref (b 0))] := hl
  refine lv_aload_n hx hb dJ0_init_81219_0 rfl (lv_at hl 0 rfl) ?_
  refine lv_aload_n hx hb dJ0_init_81219_1 rfl (lv_at hl 1 rfl) ?_
  refine lv_null hx hb dJ0_init_81219_2 ?_
  have hFc : ∀ q, va_A (ocells C b O ++ [(o, .inr (0, [.null, .int 0, .int 0, .int 0]))]) _ q → A q := all_F hD hS hA
  refine callE (va_runI (As := [.ref (b 0), .null]) (rest := []) (b := o) ⟨hx, hb, hml, hown, hts⟩ (cs_J0_init_db425 l D C ev b T O hO o _) (cwI 2 hts gJ0_init_81219_J0_init_db425 rfl rfl rfl (hts (.initialized RJ0) (by decide +kernel)) (hts (.methodLink RJ0 489 yJ0_init_db425) (by decide +kernel)) (hts (.instanceMethod yJ0_init_db425) (by decide +kernel)) rfl (by decide +kernel) ⟨Nat.le_of_ble_eq_true rfl, Nat.le_of_ble_eq_true rfl⟩) (rwPE_s (As := [.ref o, .ref (b 0), .null]) hP hK hE hD hR hX9 hS hFc) rfl rfl hl.1 rfl (lv_room (Nat.le_of_ble_eq_true rfl)) dJ0_init_81219_3 ⟨Nat.le_of_ble_eq_true rfl, Nat.le_of_ble_eq_true rfl⟩) hS hFc (fun x H1 locs hF1 hPn hDn hk hS => ?_)
  exact e_retN x rfl hx hb hr hF1 hPn (hDn.weaken (fun _ x _ h => hFc x.1 h)) hS (Nat.le_of_ble_eq_true rfl) (Nat.le_of_ble_eq_true rfl) dJ0_init_81219_6 hlocks
set_option maxHeartbeats 4000000 in
set_option maxRecDepth 100000 in
theorem cs_J4_toString_0e30d (l : Launch) (D : va_G) (C : Nat → ClassId) (ev : Nat → Nat) (b : Nat → Nat) (T : TX) (O : OS) (hO : OT T O) (sz : Nat) : Met l yJ4_toString_0e30d wsJ4_toString_0e30d ({ frames := 5, cells := 2, slots := 38, locals := 190 } : Room) (rwPE [.ref (b 0)] D C ev (ocells C b O) sz) (eO (fun x : Nat × Nat × (Nat → Int32) => some (.ref x.1)) D (fun x : Nat × Nat × (Nat → Int32) => (∀ j, j < T.2 → x.2.2 j = sb_b (T.1 j)) ∧ sb_Fit x.2.2) (fun x => ocells C b O ++ tcel C x.1 x.2.1 T.2 (.int 0) (.int 0) x.2.2) (va_A (ocells C b O) sz)) 2 38 (va_A (ocells C b O) sz) := by
  refine Met.ofW (cc := cJ4_toString_0e30d) (maxL := 1) (ret := some (.object "java/lang/String")) (by decide) rfl ?_
  intro p e s m args below meth c s₁ B hml hv
  obtain ⟨rfl, hsz, hP, hK, hD0, hE, hR, hX9⟩ := hv
  have hx := B.exec
  have hb := B.bytes
  have hr := B.returns
  have hts := atoms_spec (ws := wsJ4_toString_0e30d) B.pre
  have hown : s.vm.findClass RJ4 = some m.cls := findClass_of_methodNamed B.named
  have hlocks := B.notSynchronized
  subst hsz
  have hD := hD0.self (sz := s.heap.size)
  generalize hAe : va_A (ocells C b O) s.heap.size = A at hD hX9 ⊢
  have hA : ∀ q : Nat, s.heap.size ≤ q → A q := fun q h => by rw [← hAe]; exact Or.inr h
  have hS0 : va_S A s.heap s.heap [] := va_S.rf
  have hP : va_P D vwCl (ocells C b O) s.heap := hP
  have hS := hS0
  have hinJ0 : ∀ w ∈ u_ws RJ0 TJ0 4, w ∈ wsJ4_toString_0e30d := by decide +kernel
  have hl := lv_entry ([.ref (b 0)]) (n := 1) (Nat.le_of_ble_eq_true rfl)
  rw [lg_entry_eq]
  generalize (lg_sl ([.ref (b 0)]) ++ List.replicate (1 - (lg_sl ([.ref (b 0)])).length) Slot.unset).toArray = ls at hl ⊢
  have hl : lv_has ls 1 [(0, .ref (b 0))] := hl
  refine va_new (C := RJ0) (T := TJ0) (N := 4) (ci := 0) (fs := [.null, .int 0, .int 0, .int 0]) hx hb hts hinJ0 tyJ0 tyJ0_ok hown (hts (.classLink RJ4 18 RJ0) (by decide +kernel)) (hts (.instantiable RJ0 4) (by decide +kernel)) (hts (.initialized RJ0) (by decide +kernel)) hK hP hD hS hA rfl (by decide) (Nat.le_of_ble_eq_true rfl) (Nat.le_of_ble_eq_true rfl) dJ4_toString_0e30d_0 (fun o H hP hD hS => ?_)
  refine lv_dup hx hb dJ4_toString_0e30d_3 rfl ?_
  refine lv_aload_n hx hb dJ4_toString_0e30d_4 rfl (lv_at hl 0 rfl) ?_
  have hFc : ∀ q, va_A (ocells C b O ++ [(o, .inr (0, [.null, .int 0, .int 0, .int 0]))]) _ q → A q := all_F hD hS hA
  refine callE (va_runI (As := [.ref (b 0)]) (rest := [.ref o]) (b := o) ⟨hx, hb, hml, hown, hts⟩ (cs_J0_init_81219 l D C ev b T O hO o _) (cwI 1 hts gJ4_toString_0e30d_J0_init_81219 rfl rfl rfl (hts (.initialized RJ0) (by decide +kernel)) (hts (.methodLink RJ4 137 yJ0_init_81219) (by decide +kernel)) (hts (.instanceMethod yJ0_init_81219) (by decide +kernel)) rfl (by decide +kernel) ⟨Nat.le_of_ble_eq_true rfl, Nat.le_of_ble_eq_true rfl⟩) (rwPE_s (As := [.ref o, .ref (b 0)]) hP hK hE hD hR hX9 hS hFc) rfl rfl hl.1 rfl (lv_room (Nat.le_of_ble_eq_true rfl)) dJ4_toString_0e30d_5 ⟨Nat.le_of_ble_eq_true rfl, Nat.le_of_ble_eq_true rfl⟩) hS hFc (fun x H1 locs hF1 hPn hDn hk hS => ?_)
  exact e_retA (o, x.1, x.2) rfl hx hb hr hF1 hPn (hDn.weaken (fun _ x _ h => hFc x.1 h)) hS (Nat.le_of_ble_eq_true rfl) (Nat.le_of_ble_eq_true rfl) dJ4_toString_0e30d_8 hlocks
