/-! the graph: its rows and searches -/
def f_J7_fill_53178_l5b (x : Int32) (k5 : Nat) (v3_5 : Nat) (0_5 : (Nat → Int32)) : Sum ((Nat → Int32)) (Nat × (Nat → Int32)) := (Sum.inr (v3_5, (upd 0_5 k5 x)))
def f_J7_fill_53178_l5x (x : Int32) (v3_5 : Nat) (0_5 : (Nat → Int32)) : (Nat → Int32) := 0_5
def f_J7_fill_53178_l5s (x : Int32) (k5 : Nat) (q_ : Nat × (Nat → Int32)) : Sum ((Nat → Int32)) (Nat × (Nat → Int32)) := f_J7_fill_53178_l5b x k5 (q_.1) (q_.2)
def f_J7_fill_53178_l5e (x : Int32) (q_ : Nat × (Nat → Int32)) : (Nat → Int32) := f_J7_fill_53178_l5x x (q_.1) (q_.2)
def f_J7_fill_53178_l5 (x : Int32) (n5 k5 : Nat) (v3_5 : Nat) (0_5 : (Nat → Int32)) : (Nat → Int32) := lpF (f_J7_fill_53178_l5s x) (f_J7_fill_53178_l5e x) n5 k5 (v3_5, 0_5)
def f_J7_fill_53178 (F : (Nat → Int32)) (x : Int32) : (Nat → Int32) := (f_J7_fill_53178_l5 x (8) 0 (8) (F))
set_option maxHeartbeats 4000000 in
set_option maxRecDepth 100000 in
theorem c_J7_fill_53178 (l : Launch) (D : va_G) (C : Nat → ClassId) (r : Nat) (F : (Nat → Int32)) (x : Int32) (sz : Nat) : Met l yJ7_fill_53178 wsJ7_fill_53178 ({ frames := 0, cells := 0, slots := 0, locals := 0 } : Room) (rwP [.ref r, .int x] D C ([(r, .inl (C 0, 8, .inl F))]) sz) (rwO none D ([(r, .inl (C 0, 8, .inl ((f_J7_fill_53178 F x))))]) (va_A ([(r, .inl (C 0, 8, .inl F))]) sz)) 0 0 (va_A ([(r, .inl (C 0, 8, .inl F))]) sz) := by
  refine Met.ofW (cc := cJ7_fill_53178) (maxL := 4) (ret := none) (by decide) rfl ?_
  intro p e s m args below meth c s₁ B hml hv
  obtain ⟨rfl, hsz, hP, hK, hD0, hE⟩ := hv
  have hx := B.exec
  have hb := B.bytes
  have hr := B.returns
  have hts := atoms_spec (ws := wsJ7_fill_53178) B.pre
  have hown : s.vm.findClass RJ7 = some m.cls := findClass_of_methodNamed B.named
  have hlocks := B.notSynchronized
  subst hsz
  have hD := hD0.self (sz := s.heap.size)
  generalize hAe : va_A ([(r, .inl (C 0, 8, .inl F))]) s.heap.size = A at hD ⊢
  have hA : ∀ q : Nat, s.heap.size ≤ q → A q := fun q h => by rw [← hAe]; exact Or.inr h
  have hS0 : va_S A s.heap s.heap [] := va_S.rf
  have hP : va_P D vwCl ([(r, .inl (C 0, 8, .inl F))]) s.heap := hP
  have hS := hS0
  have hl := lv_entry ([.ref r, .int x]) (n := 4) (Nat.le_of_ble_eq_true rfl)
  rw [lg_entry_eq]
  generalize (lg_sl ([.ref r, .int x]) ++ List.replicate (4 - (lg_sl ([.ref r, .int x])).length) Slot.unset).toArray = ls at hl ⊢
  have hl : lv_has ls 4 [(0, .ref r), (1, .int x)] := hl
  obtain ⟨z, hz⟩ : ∃ z, z = f_J7_fill_53178 F x := ⟨_, rfl⟩
  rw [← hz]
  have J5 : ∀ (n5 k5 : Nat) (v3_5 : Nat) (0_5 : (Nat → Int32)) (H : Heap) (locs : List Loc) (ls : Array Slot), k5 + n5 = 8 → z = f_J7_fill_53178_l5 x n5 k5 v3_5 0_5 → va_P D vwCl ([(r, .inl (C 0, 8, .inl 0_5))]) H → va_D A ([(r, .inl (C 0, 8, .inl 0_5))]) → va_S A s.heap H locs → lv_has ls 4 [(0, .ref r), (1, .int x), (2, .int (nI k5)), (3, .int (nI v3_5))] → W p l e ({ frames := 0, cells := 0, slots := 0, locals := 0 } : Room) s m ([.ref r, .int x] : List Value).toArray below meth c H locs 0 0 (MQ below (rwO none D ([(r, .inl (C 0, 8, .inl z))]) A) ([.ref r, .int x] : List Value).toArray s 0 0 A) (F0 m 5 ls []) := by
    intro n5
    induction n5 with
    | zero =>
      intro k5 v3_5 0_5 H locs ls hk5 hz  hP hD hS hl
      have hz : z = f_J7_fill_53178_l5x x v3_5 0_5 := hz
      refine lv_iload_n hx hb dJ7_fill_53178_5 rfl (lv_at hl 2 rfl) ?_
      refine lv_iload_n hx hb dJ7_fill_53178_6 rfl (lv_at hl 3 rfl) ?_
      refine lv_icmp_ge (tgt := 20) hx hb dJ7_fill_53178_7 (by decide) (fun c_7 => ?_) (fun c_7 => absurd (nI_le (by omega) (by omega)) c_7)
      have hz : z = 0_5 := hz
      rw [hz]
      exact rw_retV hx hb hr hP hS dJ7_fill_53178_20 hlocks
    | succ n5 ih5 =>
      intro k5 v3_5 0_5 H locs ls hk5 hz5  hP hD hS hl
      obtain ⟨z5, hz⟩ : ∃ zz_, zz_ = f_J7_fill_53178_l5b x k5 v3_5 0_5 := ⟨_, rfl⟩
      have hq5 : z = sE id (fun q_ => lpF (f_J7_fill_53178_l5s x) (f_J7_fill_53178_l5e x) n5 (k5 + 1) q_) z5 := by rw [hz5, hz]; rfl
      refine lv_iload_n hx hb dJ7_fill_53178_5 rfl (lv_at hl 2 rfl) ?_
      refine lv_iload_n hx hb dJ7_fill_53178_6 rfl (lv_at hl 3 rfl) ?_
      refine lv_icmp_ge (tgt := 20) hx hb dJ7_fill_53178_7 (by decide) (fun c_7 => absurd c_7 (nI_ge (by omega) (by omega))) (fun c_7 => ?_)
      refine lv_aload_n hx hb dJ7_fill_53178_10 rfl (lv_at hl 0 rfl) ?_
      refine lv_iload_n hx hb dJ7_fill_53178_11 rfl (lv_at hl 2 rfl) ?_
      refine lv_iload_n hx hb dJ7_fill_53178_12 rfl (lv_at hl 1 rfl) ?_
      refine iastN (tys := tyA C) hx hb hK hP hD hS 0 0 rfl rfl (i := k5) (by omega) (by decide) dJ7_fill_53178_13 (fun H locs hP hD hS => ?_)
      have hP : va_P D vwCl ([(r, .inl (C 0, 8, .inl (upd 0_5 k5 x)))]) H := hP
      have hD : va_D A ([(r, .inl (C 0, 8, .inl (upd 0_5 k5 x)))]) := hD
      refine lv_iinc (v := (nI (k5 + 1))) (lv' := [(2, .int (nI (k5 + 1))), (0, .ref r), (1, .int x), (3, .int (nI v3_5))]) hx hb dJ7_fill_53178_14 hl (k := 2) rfl (by exact nI_1 _) (by decide) rfl (fun ls hl => ?_)
      refine lv_goto (tgt := 5) hx hb dJ7_fill_53178_17 (by decide) ?_
      exact ih5 (k5 + 1) (v3_5) ((upd 0_5 k5 x)) _ _ ls (by omega) (by rw [hq5, hz]; rfl)  hP hD hS (lv_sub hl [1, 2, 0, 3] rfl)
  refine lv_iconst (v := 0) hx hb dJ7_fill_53178_0 (by decide) ?_
  refine lv_istore_n (lv' := [(2, .int 0), (0, .ref r), (1, .int x)]) hx hb dJ7_fill_53178_1 rfl hl (by decide) rfl (fun ls hl => ?_)
  refine lv_aload_n hx hb dJ7_fill_53178_2 rfl (lv_at hl 1 rfl) ?_
  refine va_alen (v := nI 8) hx hb hK hP 0 0 rfl rfl rfl dJ7_fill_53178_3 ?_
  refine lv_istore_n (lv' := [(3, .int (nI 8)), (2, .int 0), (0, .ref r), (1, .int x)]) hx hb dJ7_fill_53178_4 rfl hl (by decide) rfl (fun ls hl => ?_)
  exact J5 (8) 0 (8) (F) _ _ ls (by omega) hz  hP hD hS (lv_sub hl [2, 3, 1, 0] rfl)

def f_X2_contains_j13  (s0_13 : Bool) : Bool := s0_13
def f_X2_contains (x : Int32) (i : Int32) : Bool := (if (x &&& (1 <<< (i &&& 31))) = 0 then (f_X2_contains_j13 (false)) else (f_X2_contains_j13 (true)))
set_option maxHeartbeats 4000000 in
set_option maxRecDepth 100000 in
theorem c_X2_contains (l : Launch) (D : va_G) (C : Nat → ClassId) (x : Int32) (i : Int32) : Met l yX2_contains wsX2_contains ({ frames := 0, cells := 0, slots := 0, locals := 0 } : Room) (roP [.int x, .int i] D C ([] : va_W)) (roO (some (.int (bI (f_X2_contains x i))))) 0 0 (fun _ => False) := by
  refine Met.ofW (cc := cX2_contains) (maxL := 2) (ret := (some .boolean)) (by decide) rfl ?_
  intro p e s m args below meth c s₁ B hml hv
  obtain ⟨rfl, hP, hK, hE⟩ := hv
  have hx := B.exec
  have hb := B.bytes
  have hr := B.returns
  have hts := atoms_spec (ws := wsX2_contains) B.pre
  have hown : s.vm.findClass RX2 = some m.cls := findClass_of_methodNamed B.named
  have hlocks := B.notSynchronized
  have hl := lv_entry ([.int x, .int i]) (n := 2) (Nat.le_of_ble_eq_true rfl)
  rw [lg_entry_eq]
  generalize (lg_sl ([.int x, .int i]) ++ List.replicate (2 - (lg_sl ([.int x, .int i])).length) Slot.unset).toArray = ls at hl ⊢
  have hl : lv_has ls 2 [(0, .int x), (1, .int i)] := hl
  obtain ⟨z, hz⟩ : ∃ z, z = f_X2_contains x i := ⟨_, rfl⟩
  rw [← hz]
  have J13 : ∀ (s0_13 : Bool)  (ls : Array Slot), z = f_X2_contains_j13 s0_13 → lv_has ls 2 [] → W p l e ({ frames := 0, cells := 0, slots := 0, locals := 0 } : Room) s m ([.int x, .int i] : List Value).toArray below meth c s.heap [] 0 0 (MQ below (roO (some (.int (bI z)))) ([.int x, .int i] : List Value).toArray s 0 0 (fun _ => False)) (F0 m 13 ls [.int (bI s0_13)]) := by
    intro s0_13 ls hz  hl
    exact ro_retB hx hb hr (show _ = s0_13 from hz) dX2_contains_13 hlocks
  refine lv_iload_n hx hb dX2_contains_0 rfl (lv_at hl 0 rfl) ?_
  refine lv_iconst (v := 1) hx hb dX2_contains_1 (by decide) ?_
  refine lv_iload_n hx hb dX2_contains_2 rfl (lv_at hl 1 rfl) ?_
  refine lv_ishl hx hb dX2_contains_3 ?_
  refine lv_iand hx hb dX2_contains_4 ?_
  refine lv_if_eq (tgt := 12) hx hb dX2_contains_5 (by decide) (fun c_5 => ?_) (fun c_5 => ?_)
  · have hz := hz.trans (if_pos c_5)
    refine lv_iconst (v := 0) hx hb dX2_contains_12 (by decide) ?_
    exact J13 (false) ls hz  (lv_sub hl [] rfl)
  · have hz := hz.trans (if_neg c_5)
    refine lv_iconst (v := 1) hx hb dX2_contains_8 (by decide) ?_
    refine lv_goto (tgt := 13) hx hb dX2_contains_9 (by decide) ?_
    exact J13 (true) ls hz  (lv_sub hl [] rfl)

def f_X2_nearestOpen_j47  (v2_47 : Int32) (v3_47 : Int32) : Sum (Int32) (Int32 × Int32) := (Sum.inr (v2_47, v3_47))
def f_X2_nearestOpen_l9b (Rr : GR) (x : Int32) (k9 : Nat) (v2_9 : Int32) (v3_9 : Int32) : Sum (Int32) (Int32 × Int32) := (if (f_X2_contains (x) ((nI k9))) = true then (f_X2_nearestOpen_j47 (v2_9) (v3_9)) else (if v3_9 ≤ ((rNear Rr) k9) then (f_X2_nearestOpen_j47 (v2_9) (v3_9)) else (f_X2_nearestOpen_j47 ((nI k9)) (((rNear Rr) k9)))))
def f_X2_nearestOpen_l9x (Rr : GR) (x : Int32) (v2_9 : Int32) (v3_9 : Int32) : Int32 := v2_9
def f_X2_nearestOpen_l9s (Rr : GR) (x : Int32) (k9 : Nat) (q_ : Int32 × Int32) : Sum (Int32) (Int32 × Int32) := f_X2_nearestOpen_l9b Rr x k9 (q_.1) (q_.2)
def f_X2_nearestOpen_l9e (Rr : GR) (x : Int32) (q_ : Int32 × Int32) : Int32 := f_X2_nearestOpen_l9x Rr x (q_.1) (q_.2)
def f_X2_nearestOpen_l9 (Rr : GR) (x : Int32) (n9 k9 : Nat) (v2_9 : Int32) (v3_9 : Int32) : Int32 := lpF (f_X2_nearestOpen_l9s Rr x) (f_X2_nearestOpen_l9e Rr x) n9 k9 (v2_9, v3_9)
def f_X2_nearestOpen (Rr : GR) (x : Int32) : Int32 := (f_X2_nearestOpen_l9 Rr x (8) 0 ((-1)) (1000))
set_option maxHeartbeats 4000000 in
set_option maxRecDepth 100000 in
theorem c_X2_nearestOpen (l : Launch) (D : va_G) (C : Nat → ClassId) (g : Nat → Nat) (Rr : GR) (x : Int32) (hR : RSafe Rr) : Met l yX2_nearestOpen wsX2_nearestOpen ({ frames := 1, cells := 0, slots := 0, locals := 21 } : Room) (roP [.ref (g 0), .int x] D C (grcells C g (a 0) Rr)) (roO (some (.int (f_X2_nearestOpen Rr x)))) 0 0 (fun _ => False) := by
  refine Met.ofW (cc := cX2_nearestOpen) (maxL := 5) (ret := (some .int)) (by decide) rfl ?_
  intro p e s m args below meth c s₁ B hml hv
  obtain ⟨rfl, hP, hK, hE⟩ := hv
  have hx := B.exec
  have hb := B.bytes
  have hr := B.returns
  have hts := atoms_spec (ws := wsX2_nearestOpen) B.pre
  have hown : s.vm.findClass RX2 = some m.cls := findClass_of_methodNamed B.named
  have hlocks := B.notSynchronized
  obtain hpar := id hR
  have hinX2 : ∀ w ∈ u_ws RX2 TX2 4, w ∈ wsX2_nearestOpen := by decide +kernel
  have hl := lv_entry ([.ref (g 0), .int x]) (n := 5) (Nat.le_of_ble_eq_true rfl)
  rw [lg_entry_eq]
  generalize (lg_sl ([.ref (g 0), .int x]) ++ List.replicate (5 - (lg_sl ([.ref (g 0), .int x])).length) Slot.unset).toArray = ls at hl ⊢
  have hl : lv_has ls 5 [(0, .ref (g 0)), (1, .int x)] := hl
  obtain ⟨z, hz⟩ : ∃ z, z = f_X2_nearestOpen Rr x := ⟨_, rfl⟩
  rw [← hz]
  have J9 : ∀ (n9 k9 : Nat) (v2_9 : Int32) (v3_9 : Int32) (ls : Array Slot), k9 + n9 = 8 → z = f_X2_nearestOpen_l9 Rr x n9 k9 v2_9 v3_9 → lv_has ls 5 [(0, .ref (g 0)), (1, .int x), (2, .int v2_9), (3, .int v3_9), (4, .int (nI k9))] → W p l e ({ frames := 1, cells := 0, slots := 0, locals := 21 } : Room) s m ([.ref (g 0), .int x] : List Value).toArray below meth c s.heap [] 0 0 (MQ below (roO (some (.int z))) ([.ref (g 0), .int x] : List Value).toArray s 0 0 (fun _ => False)) (F0 m 9 ls []) := by
    intro n9
    induction n9 with
    | zero =>
      intro k9 v2_9 v3_9 ls hk9 hz  hl
      have hz : z = f_X2_nearestOpen_l9x Rr x v2_9 v3_9 := hz
      refine lv_iload hx hb dX2_nearestOpen_9 (lv_at hl 4 rfl) ?_
      refine lv_bipush (v := 8) hx hb dX2_nearestOpen_11 (by decide) ?_
      refine lv_icmp_ge (tgt := 53) hx hb dX2_nearestOpen_13 (by decide) (fun c_13 => ?_) (fun c_13 => absurd (by have e : (8 : Int32) = nI 8 := (by decide); rw [e]; exact nI_le (by omega) (by omega)) c_13)
      refine lv_iload_n hx hb dX2_nearestOpen_53 rfl (lv_at hl 2 rfl) ?_
      exact ro_ret hx hb hr hz dX2_nearestOpen_54 hlocks
    | succ n9 ih9 =>
      intro k9 v2_9 v3_9 ls hk9 hz9  hl
      obtain ⟨z9, hz⟩ : ∃ zz_, zz_ = f_X2_nearestOpen_l9b Rr x k9 v2_9 v3_9 := ⟨_, rfl⟩
      have hq9 : z = sE id (fun q_ => lpF (f_X2_nearestOpen_l9s Rr x) (f_X2_nearestOpen_l9e Rr x) n9 (k9 + 1) q_) z9 := by rw [hz9, hz]; rfl
      have J47 : ∀ (v2_47 : Int32) (v3_47 : Int32)  (ls : Array Slot), z9 = f_X2_nearestOpen_j47 v2_47 v3_47 → lv_has ls 5 [(0, .ref (g 0)), (1, .int x), (2, .int v2_47), (3, .int v3_47), (4, .int (nI k9))] → W p l e ({ frames := 1, cells := 0, slots := 0, locals := 21 } : Room) s m ([.ref (g 0), .int x] : List Value).toArray below meth c s.heap [] 0 0 (MQ below (roO (some (.int z))) ([.ref (g 0), .int x] : List Value).toArray s 0 0 (fun _ => False)) (F0 m 47 ls []) := by
        intro v2_47 v3_47 ls hz  hl
        refine lv_iinc (v := (nI (k9 + 1))) (lv' := [(4, .int (nI (k9 + 1))), (0, .ref (g 0)), (1, .int x), (2, .int v2_47), (3, .int v3_47)]) hx hb dX2_nearestOpen_47 hl (k := 4) rfl (by exact nI_1 _) (by decide) rfl (fun ls hl => ?_)
        refine lv_goto (tgt := 9) hx hb dX2_nearestOpen_50 (by decide) ?_
        exact ih9 (k9 + 1) (v2_47) (v3_47) ls (by omega) (by rw [hq9, hz]; rfl)  (lv_sub hl [1, 2, 3, 4, 0] rfl)
      refine lv_iload hx hb dX2_nearestOpen_9 (lv_at hl 4 rfl) ?_
      refine lv_bipush (v := 8) hx hb dX2_nearestOpen_11 (by decide) ?_
      refine lv_icmp_ge (tgt := 53) hx hb dX2_nearestOpen_13 (by decide) (fun c_13 => absurd c_13 (by have e : (8 : Int32) = nI 8 := (by decide); rw [e]; exact nI_ge (by omega) (by omega))) (fun c_13 => ?_)
      refine lv_iload_n hx hb dX2_nearestOpen_16 rfl (lv_at hl 1 rfl) ?_
      refine lv_iload hx hb dX2_nearestOpen_17 (lv_at hl 4 rfl) ?_
      refine callRo (va_runS (As := [.int x, .int (nI k9)]) (rest := []) ⟨hx, hb, hml, hown, hts⟩ (c_X2_contains l D C (x) ((nI k9))) (va_cwS 2 hts gX2_nearestOpen_X2_contains rfl rfl rfl (by decide +kernel) ⟨Nat.le_of_ble_eq_true rfl, Nat.le_of_ble_eq_true rfl⟩) (roP_s (hP.sub (ws' := ([] : va_W)) [] rfl) hK hE) rfl rfl hl.1 rfl (lv_room (Nat.le_of_ble_eq_true rfl)) dX2_nearestOpen_19 ⟨Nat.le_refl _, Nat.le_refl _⟩) ?_
      refine bif_ne (tgt := 47) hx hb dX2_nearestOpen_22 (by decide) (fun c_22 => ?_) (fun c_22 => ?_)
      · have hz := hz.trans (ifB_t c_22)
        exact J47 (v2_9) (v3_9) ls hz  (lv_sub hl [0, 1, 2, 3, 4] rfl)
      · have hz := hz.trans (ifB_f c_22)
        refine lv_aload_n hx hb dX2_nearestOpen_25 rfl (lv_at hl 0 rfl) ?_
        refine va_get (D := D) (ci := 5) (v := .ref (g 1)) (C := RX2) (T := TX2) (N := 4) hx hb hts hinX2 hown hK hP 0 rfl rfl 1 (by decide) (hts (.fieldLink RX2 9 "BridgeAuction$Graph" "nearest" "[I") (by decide +kernel)) (fun _ h9 => h9) rfl dX2_nearestOpen_26 ?_
        refine lv_iload hx hb dX2_nearestOpen_29 (lv_at hl 4 rfl) ?_
        refine ialdN (tys := tyA C) hx hb hK hP 1 0 rfl rfl (i := k9) (by omega) (by decide) dX2_nearestOpen_31 ?_
        refine lv_iload_n hx hb dX2_nearestOpen_32 rfl (lv_at hl 3 rfl) ?_
        refine lv_icmp_ge (tgt := 47) hx hb dX2_nearestOpen_33 (by decide) (fun c_33 => ?_) (fun c_33 => ?_)
        · have hz := hz.trans (if_pos c_33)
          exact J47 (v2_9) (v3_9) ls hz  (lv_sub hl [0, 1, 2, 3, 4] rfl)
        · have hz := hz.trans (if_neg c_33)
          refine lv_iload hx hb dX2_nearestOpen_36 (lv_at hl 4 rfl) ?_
          refine lv_istore_n (lv' := [(2, .int (nI k9)), (0, .ref (g 0)), (1, .int x), (3, .int v3_9), (4, .int (nI k9))]) hx hb dX2_nearestOpen_38 rfl hl (by decide) rfl (fun ls hl => ?_)
          refine lv_aload_n hx hb dX2_nearestOpen_39 rfl (lv_at hl 1 rfl) ?_
          refine va_get (D := D) (ci := 5) (v := .ref (g 1)) (C := RX2) (T := TX2) (N := 4) hx hb hts hinX2 hown hK hP 0 rfl rfl 1 (by decide) (hts (.fieldLink RX2 9 "BridgeAuction$Graph" "nearest" "[I") (by decide +kernel)) (fun _ h9 => h9) rfl dX2_nearestOpen_40 ?_
          refine lv_iload hx hb dX2_nearestOpen_43 (lv_at hl 4 rfl) ?_
          refine ialdN (tys := tyA C) hx hb hK hP 1 0 rfl rfl (i := k9) (by omega) (by decide) dX2_nearestOpen_45 ?_
          refine lv_istore_n (lv' := [(3, .int ((rNear Rr) k9)), (2, .int (nI k9)), (0, .ref (g 0)), (1, .int x), (4, .int (nI k9))]) hx hb dX2_nearestOpen_46 rfl hl (by decide) rfl (fun ls hl => ?_)
          exact J47 ((nI k9)) (((rNear Rr) k9)) ls hz  (lv_sub hl [2, 3, 1, 0, 4] rfl)
  refine lv_iconst (v := (-1)) hx hb dX2_nearestOpen_0 (by decide) ?_
  refine lv_istore_n (lv' := [(2, .int (-1)), (0, .ref (g 0)), (1, .int x)]) hx hb dX2_nearestOpen_1 rfl hl (by decide) rfl (fun ls hl => ?_)
  refine lv_sipush (v := 1000) hx hb dX2_nearestOpen_2 (by decide) ?_
  refine lv_istore_n (lv' := [(3, .int 1000), (2, .int (-1)), (0, .ref (g 0)), (1, .int x)]) hx hb dX2_nearestOpen_5 rfl hl (by decide) rfl (fun ls hl => ?_)
  refine lv_iconst (v := 0) hx hb dX2_nearestOpen_6 (by decide) ?_
  refine lv_istore (lv' := [(4, .int 0), (3, .int 1000), (2, .int (-1)), (0, .ref (g 0)), (1, .int x)]) hx hb dX2_nearestOpen_7 hl (by decide) rfl (fun ls hl => ?_)
  exact J9 (8) 0 ((-1)) (1000) ls (by omega) hz  (lv_sub hl [3, 4, 2, 1, 0] rfl)

theorem bridgedFrom_in {G : GS} (hG : GSafe G) {i : Int32} {k : Nat} (h : ¬ f_X1_bridgedFrom G i k = -1) : vp_in (f_X1_bridgedFrom G i k) 8 := by
  obtain ⟨-, -, hlo, hhi⟩ := hG
  revert h
  unfold f_X1_bridgedFrom
  simp only [f_X1_bridgedFrom_j47]
  repeat' split
  all_goals first | (intro h; exact absurd rfl h) | (intro _; exact vp_in_nI (hhi k) (by decide)) | (intro _; exact vp_in_nI (hlo k) (by decide)) | skip
def f_X2_lookFurther_j59  (near0_59 : (Nat → Int32)) : Sum (GR) ((Nat → Int32)) := (Sum.inr near0_59)
def f_X2_lookFurther_l2b (Rr : GR) (G : GS) (i : Nat) (k2 : Nat) (near0_2 : (Nat → Int32)) : Sum (GR) ((Nat → Int32)) := (if (f_X1_bridgedFrom G ((nI i)) (k2)) = (-1) then (f_X2_lookFurther_j59 (near0_2)) else (f_X2_lookFurther_j59 ((upd near0_2 ((f_X1_bridgedFrom G ((nI i)) (k2))).toNatClampNeg (imin (near0_2 ((f_X1_bridgedFrom G ((nI i)) (k2))).toNatClampNeg) ((near0_2 i) + ((gLen G) k2)))))))
def f_X2_lookFurther_l2x (Rr : GR) (G : GS) (i : Nat) (near0_2 : (Nat → Int32)) : GR := (mkR near0_2 (rRlx Rr) (rPar Rr))
def f_X2_lookFurther_l2s (Rr : GR) (G : GS) (i : Nat) (k2 : Nat) (q_ : (Nat → Int32)) : Sum (GR) ((Nat → Int32)) := f_X2_lookFurther_l2b Rr G i k2 (q_)
def f_X2_lookFurther_l2e (Rr : GR) (G : GS) (i : Nat) (q_ : (Nat → Int32)) : GR := f_X2_lookFurther_l2x Rr G i (q_)
def f_X2_lookFurther_l2 (Rr : GR) (G : GS) (i : Nat) (n2 k2 : Nat) (near0_2 : (Nat → Int32)) : GR := lpF (f_X2_lookFurther_l2s Rr G i) (f_X2_lookFurther_l2e Rr G i) n2 k2 near0_2
def f_X2_lookFurther (Rr : GR) (G : GS) (i : Nat) : GR := (f_X2_lookFurther_l2 Rr G i (gS G) 0 ((rNear Rr)))
set_option maxHeartbeats 4000000 in
set_option maxRecDepth 100000 in
theorem c_X2_lookFurther (l : Launch) (D : va_G) (C : Nat → ClassId) (g : Nat → Nat) (Rr : GR) (a : Nat → Nat) (G : GS) (i : Nat) (sz : Nat) (hR : RSafe Rr) (hG : GSafe G) (h_i : i < 8) : Met l yX2_lookFurther wsX2_lookFurther ({ frames := 2, cells := 0, slots := 0, locals := 43 } : Room) (rwP [.ref (g 0), .int (nI i)] D C (grcells C g (a 0) Rr ++ gcells C a G) sz) (rwO none D (grcells C g (a 0) ((f_X2_lookFurther Rr G i)) ++ gcells C a G) (va_A (grcells C g (a 0) Rr ++ gcells C a G) sz)) 0 0 (va_A (grcells C g (a 0) Rr ++ gcells C a G) sz) := by
  refine Met.ofW (cc := cX2_lookFurther) (maxL := 4) (ret := none) (by decide) rfl ?_
  intro p e s m args below meth c s₁ B hml hv
  obtain ⟨rfl, hsz, hP, hK, hD0, hE⟩ := hv
  have hx := B.exec
  have hb := B.bytes
  have hr := B.returns
  have hts := atoms_spec (ws := wsX2_lookFurther) B.pre
  have hown : s.vm.findClass RX2 = some m.cls := findClass_of_methodNamed B.named
  have hlocks := B.notSynchronized
  subst hsz
  have hD := hD0.self (sz := s.heap.size)
  generalize hAe : va_A (grcells C g (a 0) Rr ++ gcells C a G) s.heap.size = A at hD ⊢
  have hA : ∀ q : Nat, s.heap.size ≤ q → A q := fun q h => by rw [← hAe]; exact Or.inr h
  have hS0 : va_S A s.heap s.heap [] := va_S.rf
  have hP : va_P D vwCl (grcells C g (a 0) Rr ++ gcells C a G) s.heap := hP
  have hS := hS0
  obtain hpar := id hR
  obtain ⟨hS12, hP4, hlo, hhi⟩ := id hG
  have hinX1 : ∀ w ∈ u_ws RX1 TX1 16, w ∈ wsX2_lookFurther := by decide +kernel
  have hinX2 : ∀ w ∈ u_ws RX2 TX2 4, w ∈ wsX2_lookFurther := by decide +kernel
  have hl := lv_entry ([.ref (g 0), .int (nI i)]) (n := 4) (Nat.le_of_ble_eq_true rfl)
  rw [lg_entry_eq]
  generalize (lg_sl ([.ref (g 0), .int (nI i)]) ++ List.replicate (4 - (lg_sl ([.ref (g 0), .int (nI i)])).length) Slot.unset).toArray = ls at hl ⊢
  have hl : lv_has ls 4 [(0, .ref (g 0)), (1, .int (nI i))] := hl
  obtain ⟨z, hz⟩ : ∃ z, z = f_X2_lookFurther Rr G i := ⟨_, rfl⟩
  rw [← hz]
  have J2 : ∀ (n2 k2 : Nat) (near0_2 : (Nat → Int32)) (H : Heap) (locs : List Loc) (ls : Array Slot), k2 + n2 = gS G → z = f_X2_lookFurther_l2 Rr G i n2 k2 near0_2 → va_P D vwCl (grcells C g (a 0) (mkR near0_2 (rRlx Rr) (rPar Rr)) ++ gcells C a G) H → va_D A (grcells C g (a 0) (mkR near0_2 (rRlx Rr) (rPar Rr)) ++ gcells C a G) → va_S A s.heap H locs → lv_has ls 4 [(0, .ref (g 0)), (1, .int (nI i)), (2, .int (nI k2))] → W p l e ({ frames := 2, cells := 0, slots := 0, locals := 43 } : Room) s m ([.ref (g 0), .int (nI i)] : List Value).toArray below meth c H locs 0 0 (MQ below (rwO none D (grcells C g (a 0) z ++ gcells C a G) A) ([.ref (g 0), .int (nI i)] : List Value).toArray s 0 0 A) (F0 m 2 ls []) := by
    intro n2
    induction n2 with
    | zero =>
      intro k2 near0_2 H locs ls hk2 hz  hP hD hS hl
      have hz : z = f_X2_lookFurther_l2x Rr G i near0_2 := hz
      refine lv_iload_n hx hb dX2_lookFurther_2 rfl (lv_at hl 2 rfl) ?_
      refine lv_aload_n hx hb dX2_lookFurther_3 rfl (lv_at hl 0 rfl) ?_
      refine va_get (D := D) (ci := 5) (v := .ref (a 0)) (C := RX2) (T := TX2) (N := 4) hx hb hts hinX2 hown hK hP 0 rfl rfl 0 (by decide) (hts (.fieldLink RX2 21 "BridgeAuction$Graph" "game" "LBridgeAuction$Game;") (by decide +kernel)) (fun _ h9 => h9) rfl dX2_lookFurther_4 ?_
      refine va_getN (D := D) (ci := 4) (v := .int (nI (gS G))) (C := RX1) (T := TX1) (N := 16) hx hb hts hinX1 hown hK hP 4 rfl rfl 5 (by decide) (hE.use 4 rfl) (fun _ h9 => h9) rfl dX2_lookFurther_7 ?_
      refine lv_icmp_ge (tgt := 65) hx hb dX2_lookFurther_10 (by decide) (fun c_10 => ?_) (fun c_10 => absurd (nI_le (by omega) (by omega)) c_10)
      have hz : z = (mkR near0_2 (rRlx Rr) (rPar Rr)) := hz
      rw [hz]
      exact rw_retV hx hb hr hP hS dX2_lookFurther_65 hlocks
    | succ n2 ih2 =>
      intro k2 near0_2 H locs ls hk2 hz2  hP hD hS hl
      obtain ⟨z2, hz⟩ : ∃ zz_, zz_ = f_X2_lookFurther_l2b Rr G i k2 near0_2 := ⟨_, rfl⟩
      have hq2 : z = sE id (fun q_ => lpF (f_X2_lookFurther_l2s Rr G i) (f_X2_lookFurther_l2e Rr G i) n2 (k2 + 1) q_) z2 := by rw [hz2, hz]; rfl
      have J59 : ∀ (near0_59 : (Nat → Int32))  (H : Heap) (locs : List Loc) (ls : Array Slot), z2 = f_X2_lookFurther_j59 near0_59 → va_P D vwCl (grcells C g (a 0) (mkR near0_59 (rRlx Rr) (rPar Rr)) ++ gcells C a G) H → va_D A (grcells C g (a 0) (mkR near0_59 (rRlx Rr) (rPar Rr)) ++ gcells C a G) → va_S A s.heap H locs → lv_has ls 4 [(0, .ref (g 0)), (1, .int (nI i)), (2, .int (nI k2))] → W p l e ({ frames := 2, cells := 0, slots := 0, locals := 43 } : Room) s m ([.ref (g 0), .int (nI i)] : List Value).toArray below meth c H locs 0 0 (MQ below (rwO none D (grcells C g (a 0) z ++ gcells C a G) A) ([.ref (g 0), .int (nI i)] : List Value).toArray s 0 0 A) (F0 m 59 ls []) := by
        intro near0_59 H locs ls hz  hP hD hS hl
        refine lv_iinc (v := (nI (k2 + 1))) (lv' := [(2, .int (nI (k2 + 1))), (0, .ref (g 0)), (1, .int (nI i))]) hx hb dX2_lookFurther_59 hl (k := 2) rfl (by exact nI_1 _) (by decide) rfl (fun ls hl => ?_)
        refine lv_goto (tgt := 2) hx hb dX2_lookFurther_62 (by decide) ?_
        exact ih2 (k2 + 1) (near0_59) _ _ ls (by omega) (by rw [hq2, hz]; rfl)  hP hD hS (lv_sub hl [1, 2, 0] rfl)
      refine lv_iload_n hx hb dX2_lookFurther_2 rfl (lv_at hl 2 rfl) ?_
      refine lv_aload_n hx hb dX2_lookFurther_3 rfl (lv_at hl 0 rfl) ?_
      refine va_get (D := D) (ci := 5) (v := .ref (a 0)) (C := RX2) (T := TX2) (N := 4) hx hb hts hinX2 hown hK hP 0 rfl rfl 0 (by decide) (hts (.fieldLink RX2 21 "BridgeAuction$Graph" "game" "LBridgeAuction$Game;") (by decide +kernel)) (fun _ h9 => h9) rfl dX2_lookFurther_4 ?_
      refine va_getN (D := D) (ci := 4) (v := .int (nI (gS G))) (C := RX1) (T := TX1) (N := 16) hx hb hts hinX1 hown hK hP 4 rfl rfl 5 (by decide) (hE.use 4 rfl) (fun _ h9 => h9) rfl dX2_lookFurther_7 ?_
      refine lv_icmp_ge (tgt := 65) hx hb dX2_lookFurther_10 (by decide) (fun c_10 => absurd c_10 (nI_ge (by omega) (by omega))) (fun c_10 => ?_)
      refine lv_aload_n hx hb dX2_lookFurther_13 rfl (lv_at hl 0 rfl) ?_
      refine va_get (D := D) (ci := 5) (v := .ref (a 0)) (C := RX2) (T := TX2) (N := 4) hx hb hts hinX2 hown hK hP 0 rfl rfl 0 (by decide) (hts (.fieldLink RX2 21 "BridgeAuction$Graph" "game" "LBridgeAuction$Game;") (by decide +kernel)) (fun _ h9 => h9) rfl dX2_lookFurther_14 ?_
      refine lv_iload_n hx hb dX2_lookFurther_17 rfl (lv_at hl 1 rfl) ?_
      refine lv_iload_n hx hb dX2_lookFurther_18 rfl (lv_at hl 2 rfl) ?_
      refine callRo (va_runV (As := [.int (nI i), .int (nI k2)]) (rest := []) ⟨hx, hb, hml, hown, hts⟩ (c_X1_bridgedFrom l D C a G ((nI i)) (k2) hG (by omega)) (cwV 2 hts gX2_lookFurther_X1_bridgedFrom rfl rfl rfl (by decide +kernel) ⟨Nat.le_of_ble_eq_true rfl, Nat.le_of_ble_eq_true rfl⟩) (roP_v (hP.sub (ws' := (gcells C a G)) [4, 5, 6, 7, 8, 9, 10, 11, 12] rfl) hK hE (va_recv hK (hP.sub (ws' := (gcells C a G)) [4, 5, 6, 7, 8, 9, 10, 11, 12] rfl) (ci := 4) (q0 := 0) rfl rfl)) rfl rfl hl.1 rfl (lv_room (Nat.le_of_ble_eq_true rfl)) dX2_lookFurther_19 ⟨Nat.le_refl _, Nat.le_refl _⟩) ?_
      refine lv_istore_n (lv' := [(3, .int (f_X1_bridgedFrom G ((nI i)) (k2))), (0, .ref (g 0)), (1, .int (nI i)), (2, .int (nI k2))]) hx hb dX2_lookFurther_22 rfl hl (by decide) rfl (fun ls hl => ?_)
      refine lv_iload_n hx hb dX2_lookFurther_23 rfl (lv_at hl 0 rfl) ?_
      refine lv_iconst (v := (-1)) hx hb dX2_lookFurther_24 (by decide) ?_
      refine lv_icmp_eq (tgt := 59) hx hb dX2_lookFurther_25 (by decide) (fun c_25 => ?_) (fun c_25 => ?_)
      · have hz := hz.trans (if_pos c_25)
        exact J59 (near0_2) _ _ ls hz  hP hD hS (lv_sub hl [1, 2, 3] rfl)
      · have hz := hz.trans (if_neg c_25)
        refine lv_aload_n hx hb dX2_lookFurther_28 rfl (lv_at hl 1 rfl) ?_
        refine va_get (D := D) (ci := 5) (v := .ref (g 1)) (C := RX2) (T := TX2) (N := 4) hx hb hts hinX2 hown hK hP 0 rfl rfl 1 (by decide) (hts (.fieldLink RX2 9 "BridgeAuction$Graph" "nearest" "[I") (by decide +kernel)) (fun _ h9 => h9) rfl dX2_lookFurther_29 ?_
        refine lv_iload_n hx hb dX2_lookFurther_32 rfl (lv_at hl 0 rfl) ?_
        refine lv_aload_n hx hb dX2_lookFurther_33 rfl (lv_at hl 1 rfl) ?_
        refine va_get (D := D) (ci := 5) (v := .ref (g 1)) (C := RX2) (T := TX2) (N := 4) hx hb hts hinX2 hown hK hP 0 rfl rfl 1 (by decide) (hts (.fieldLink RX2 9 "BridgeAuction$Graph" "nearest" "[I") (by decide +kernel)) (fun _ h9 => h9) rfl dX2_lookFurther_34 ?_
        refine lv_iload_n hx hb dX2_lookFurther_37 rfl (lv_at hl 0 rfl) ?_
        obtain ⟨ehn_1, lhn_1⟩ := nat_of (x := (f_X1_bridgedFrom G ((nI i)) (k2))) (n := 8) (by exact bridgedFrom_in hG c_25) (by omega)
        refine topN ehn_1 ?_
        refine ialdN (tys := tyA C) hx hb hK hP 1 0 rfl rfl (i := ((f_X1_bridgedFrom G ((nI i)) (k2))).toNatClampNeg) (by omega) (by decide) dX2_lookFurther_38 ?_
        refine lv_aload_n hx hb dX2_lookFurther_39 rfl (lv_at hl 1 rfl) ?_
        refine va_get (D := D) (ci := 5) (v := .ref (g 1)) (C := RX2) (T := TX2) (N := 4) hx hb hts hinX2 hown hK hP 0 rfl rfl 1 (by decide) (hts (.fieldLink RX2 9 "BridgeAuction$Graph" "nearest" "[I") (by decide +kernel)) (fun _ h9 => h9) rfl dX2_lookFurther_40 ?_
        refine lv_iload_n hx hb dX2_lookFurther_43 rfl (lv_at hl 2 rfl) ?_
        refine ialdN (tys := tyA C) hx hb hK hP 1 0 rfl rfl (i := i) (by omega) (by decide) dX2_lookFurther_44 ?_
        refine lv_aload_n hx hb dX2_lookFurther_45 rfl (lv_at hl 1 rfl) ?_
        refine va_get (D := D) (ci := 5) (v := .ref (a 0)) (C := RX2) (T := TX2) (N := 4) hx hb hts hinX2 hown hK hP 0 rfl rfl 0 (by decide) (hts (.fieldLink RX2 21 "BridgeAuction$Graph" "game" "LBridgeAuction$Game;") (by decide +kernel)) (fun _ h9 => h9) rfl dX2_lookFurther_46 ?_
        refine va_getN (D := D) (ci := 4) (v := .ref (a 5)) (C := RX1) (T := TX1) (N := 16) hx hb hts hinX1 hown hK hP 4 rfl rfl 8 (by decide) (hE.use 10 rfl) (fun _ h9 => h9) rfl dX2_lookFurther_49 ?_
        refine lv_iload_n hx hb dX2_lookFurther_52 rfl (lv_at hl 3 rfl) ?_
        refine ialdN (tys := tyA C) hx hb hK hP 9 0 rfl rfl (i := k2) (by omega) (by decide) dX2_lookFurther_53 ?_
        refine lv_iadd hx hb dX2_lookFurther_54 ?_
        refine va_mmin hx hb (hml.trans hl.1.symm) hown (hts (.methodLink RX2 56 Lib.Math.min.name) (by decide +kernel)) (hts (.static Lib.Math.min.name) (by decide +kernel)) (hts (.initialized "java/lang/Math") (by decide +kernel)) (hts (.code Lib.Math.min.name Lib.Math.min.code 2 (some .int)) (by decide +kernel)) (Nat.le_of_ble_eq_true rfl) (Nat.le_of_ble_eq_true rfl) (Nat.le_of_ble_eq_true rfl) (Nat.le_of_ble_eq_true rfl) dX2_lookFurther_55 ?_
        refine topI (y := (imin (near0_2 ((f_X1_bridgedFrom G ((nI i)) (k2))).toNatClampNeg) ((near0_2 i) + ((gLen G) k2)))) rfl ?_
        obtain ⟨ehn_2, lhn_2⟩ := nat_of (x := (f_X1_bridgedFrom G ((nI i)) (k2))) (n := 8) (by exact bridgedFrom_in hG c_25) (by omega)
        refine topN2 ehn_2 ?_
        refine iastN (tys := tyA C) hx hb hK hP hD hS 1 0 rfl rfl (i := ((f_X1_bridgedFrom G ((nI i)) (k2))).toNatClampNeg) (by omega) (by decide) dX2_lookFurther_58 (fun H locs hP hD hS => ?_)
        have hP : va_P D vwCl (grcells C g (a 0) (mkR (upd near0_2 ((f_X1_bridgedFrom G ((nI i)) (k2))).toNatClampNeg (imin (near0_2 ((f_X1_bridgedFrom G ((nI i)) (k2))).toNatClampNeg) ((near0_2 i) + ((gLen G) k2)))) (rRlx Rr) (rPar Rr)) ++ gcells C a G) H := hP
        have hD : va_D A (grcells C g (a 0) (mkR (upd near0_2 ((f_X1_bridgedFrom G ((nI i)) (k2))).toNatClampNeg (imin (near0_2 ((f_X1_bridgedFrom G ((nI i)) (k2))).toNatClampNeg) ((near0_2 i) + ((gLen G) k2)))) (rRlx Rr) (rPar Rr)) ++ gcells C a G) := hD
        exact J59 ((upd near0_2 ((f_X1_bridgedFrom G ((nI i)) (k2))).toNatClampNeg (imin (near0_2 ((f_X1_bridgedFrom G ((nI i)) (k2))).toNatClampNeg) ((near0_2 i) + ((gLen G) k2))))) _ _ ls hz  hP hD hS (lv_sub hl [1, 2, 3] rfl)
  refine lv_iconst (v := 0) hx hb dX2_lookFurther_0 (by decide) ?_
  refine lv_istore_n (lv' := [(2, .int 0), (0, .ref (g 0)), (1, .int (nI i))]) hx hb dX2_lookFurther_1 rfl hl (by decide) rfl (fun ls hl => ?_)
  exact J2 (gS G) 0 ((rNear Rr)) _ _ ls (by omega) hz  hP hD hS (lv_sub hl [1, 2, 0] rfl)

theorem nearestOpen_in {R : GR} {x : Int32} (h : ¬ f_X2_nearestOpen R x = -1) : vp_in (f_X2_nearestOpen R x) 8 := by
  have key : f_X2_nearestOpen R x = -1 ∨ vp_in (f_X2_nearestOpen R x) 8 := by
    refine lpF_inv (fun (k : Nat) (s : Int32 × Int32) => (s.1 = -1 ∨ vp_in s.1 8)) (fun r => r = -1 ∨ vp_in r 8) ?_ ?_ ?_ 8 0 _ (Or.inl rfl)
    · intro k s r hI hs; sorry
    · intro k s s' hI hs; sorry
    · intro k s hI; exact hI
  exact key.resolve_left h
def f_X2_searchNearest_l21b (G : GS) (k21 : Nat) (v2_21 : Int32) (Rr_21 : GR) : Sum (GR) (Int32 × GR) := (if (f_X2_nearestOpen Rr_21 (v2_21)) = (-1) then (Sum.inl Rr_21) else (lt_ (f_X2_lookFurther Rr_21 G (((f_X2_nearestOpen Rr_21 (v2_21))).toNatClampNeg)) (fun y51 => (Sum.inr ((v2_21 ||| (1 <<< ((f_X2_nearestOpen Rr_21 (v2_21)) &&& 31))), y51)))))
def f_X2_searchNearest_l21x (G : GS) (v2_21 : Int32) (Rr_21 : GR) : GR := Rr_21
def f_X2_searchNearest_l21s (G : GS) (k21 : Nat) (q_ : Int32 × GR) : Sum (GR) (Int32 × GR) := f_X2_searchNearest_l21b G k21 (q_.1) (q_.2)
def f_X2_searchNearest_l21e (G : GS) (q_ : Int32 × GR) : GR := f_X2_searchNearest_l21x G (q_.1) (q_.2)
def f_X2_searchNearest_l21 (G : GS) (n21 k21 : Nat) (v2_21 : Int32) (Rr_21 : GR) : GR := lpF (f_X2_searchNearest_l21s G) (f_X2_searchNearest_l21e G) n21 k21 (v2_21, Rr_21)
def f_X2_searchNearest (Rr : GR) (G : GS) (i : Nat) : GR := (lt_ (f_J7_fill_53178 (rNear Rr) (1000)) (fun y7 => (f_X2_searchNearest_l21 G (8) 0 (0) ((mkR (upd y7 i 0) (rRlx Rr) (rPar Rr))))))
set_option maxHeartbeats 4000000 in
set_option maxRecDepth 100000 in
theorem c_X2_searchNearest (l : Launch) (D : va_G) (C : Nat → ClassId) (g : Nat → Nat) (Rr : GR) (a : Nat → Nat) (G : GS) (i : Nat) (sz : Nat) (hR : RSafe Rr) (hG : GSafe G) (h_i : i < 8) : Met l yX2_searchNearest wsX2_searchNearest ({ frames := 3, cells := 0, slots := 0, locals := 66 } : Room) (rwP [.ref (g 0), .int (nI i)] D C (grcells C g (a 0) Rr ++ gcells C a G) sz) (rwO none D (grcells C g (a 0) ((f_X2_searchNearest Rr G i)) ++ gcells C a G) (va_A (grcells C g (a 0) Rr ++ gcells C a G) sz)) 0 0 (va_A (grcells C g (a 0) Rr ++ gcells C a G) sz) := by
  refine Met.ofW (cc := cX2_searchNearest) (maxL := 5) (ret := none) (by decide) rfl ?_
  intro p e s m args below meth c s₁ B hml hv
  obtain ⟨rfl, hsz, hP, hK, hD0, hE⟩ := hv
  have hx := B.exec
  have hb := B.bytes
  have hr := B.returns
  have hts := atoms_spec (ws := wsX2_searchNearest) B.pre
  have hown : s.vm.findClass RX2 = some m.cls := findClass_of_methodNamed B.named
  have hlocks := B.notSynchronized
  subst hsz
  have hD := hD0.self (sz := s.heap.size)
  generalize hAe : va_A (grcells C g (a 0) Rr ++ gcells C a G) s.heap.size = A at hD ⊢
  have hA : ∀ q : Nat, s.heap.size ≤ q → A q := fun q h => by rw [← hAe]; exact Or.inr h
  have hS0 : va_S A s.heap s.heap [] := va_S.rf
  have hP : va_P D vwCl (grcells C g (a 0) Rr ++ gcells C a G) s.heap := hP
  have hS := hS0
  obtain hpar := id hR
  obtain ⟨hS12, hP4, hlo, hhi⟩ := id hG
  have hinX2 : ∀ w ∈ u_ws RX2 TX2 4, w ∈ wsX2_searchNearest := by decide +kernel
  have hl := lv_entry ([.ref (g 0), .int (nI i)]) (n := 5) (Nat.le_of_ble_eq_true rfl)
  rw [lg_entry_eq]
  generalize (lg_sl ([.ref (g 0), .int (nI i)]) ++ List.replicate (5 - (lg_sl ([.ref (g 0), .int (nI i)])).length) Slot.unset).toArray = ls at hl ⊢
  have hl : lv_has ls 5 [(0, .ref (g 0)), (1, .int (nI i))] := hl
  obtain ⟨z, hz⟩ : ∃ z, z = f_X2_searchNearest Rr G i := ⟨_, rfl⟩
  rw [← hz]
  have J21 : ∀ (n21 k21 : Nat) (v2_21 : Int32) (Rr_21 : GR) (H : Heap) (locs : List Loc) (ls : Array Slot), k21 + n21 = 8 → z = f_X2_searchNearest_l21 G n21 k21 v2_21 Rr_21 → va_P D vwCl (grcells C g (a 0) Rr_21 ++ gcells C a G) H → va_D A (grcells C g (a 0) Rr_21 ++ gcells C a G) → va_S A s.heap H locs → lv_has ls 5 [(0, .ref (g 0)), (2, .int v2_21), (3, .int (nI k21))] → W p l e ({ frames := 3, cells := 0, slots := 0, locals := 66 } : Room) s m ([.ref (g 0), .int (nI i)] : List Value).toArray below meth c H locs 0 0 (MQ below (rwO none D (grcells C g (a 0) z ++ gcells C a G) A) ([.ref (g 0), .int (nI i)] : List Value).toArray s 0 0 A) (F0 m 21 ls []) := by
    intro n21
    induction n21 with
    | zero =>
      intro k21 v2_21 Rr_21 H locs ls hk21 hz  hP hD hS hl
      have hz : z = f_X2_searchNearest_l21x G v2_21 Rr_21 := hz
      refine lv_iload_n hx hb dX2_searchNearest_21 rfl (lv_at hl 2 rfl) ?_
      refine lv_bipush (v := 8) hx hb dX2_searchNearest_22 (by decide) ?_
      refine lv_icmp_ge (tgt := 60) hx hb dX2_searchNearest_24 (by decide) (fun c_24 => ?_) (fun c_24 => absurd (by have e : (8 : Int32) = nI 8 := (by decide); rw [e]; exact nI_le (by omega) (by omega)) c_24)
      have hz : z = Rr_21 := hz
      rw [hz]
      exact rw_retV hx hb hr hP hS dX2_searchNearest_60 hlocks
    | succ n21 ih21 =>
      intro k21 v2_21 Rr_21 H locs ls hk21 hz21  hP hD hS hl
      obtain ⟨z21, hz⟩ : ∃ zz_, zz_ = f_X2_searchNearest_l21b G k21 v2_21 Rr_21 := ⟨_, rfl⟩
      have hq21 : z = sE id (fun q_ => lpF (f_X2_searchNearest_l21s G) (f_X2_searchNearest_l21e G) n21 (k21 + 1) q_) z21 := by rw [hz21, hz]; rfl
      refine lv_iload_n hx hb dX2_searchNearest_21 rfl (lv_at hl 2 rfl) ?_
      refine lv_bipush (v := 8) hx hb dX2_searchNearest_22 (by decide) ?_
      refine lv_icmp_ge (tgt := 60) hx hb dX2_searchNearest_24 (by decide) (fun c_24 => absurd c_24 (by have e : (8 : Int32) = nI 8 := (by decide); rw [e]; exact nI_ge (by omega) (by omega))) (fun c_24 => ?_)
      refine lv_aload_n hx hb dX2_searchNearest_27 rfl (lv_at hl 0 rfl) ?_
      refine lv_iload_n hx hb dX2_searchNearest_28 rfl (lv_at hl 1 rfl) ?_
      refine callRo (va_runV (As := [.int v2_21]) (rest := []) ⟨hx, hb, hml, hown, hts⟩ (c_X2_nearestOpen l D C g Rr_21 (v2_21) (by assumption)) (cwV 1 hts gX2_searchNearest_X2_nearestOpen rfl rfl rfl (by decide +kernel) ⟨Nat.le_of_ble_eq_true rfl, Nat.le_of_ble_eq_true rfl⟩) (roP_v (hP.sub (ws' := (grcells C g (a 0) Rr_21)) [0, 1, 2, 3] rfl) hK hE (va_recv hK (hP.sub (ws' := (grcells C g (a 0) Rr_21)) [0, 1, 2, 3] rfl) (ci := 5) (q0 := 0) rfl rfl)) rfl rfl hl.1 rfl (lv_room (Nat.le_of_ble_eq_true rfl)) dX2_searchNearest_29 ⟨Nat.le_refl _, Nat.le_refl _⟩) ?_
      refine lv_istore (lv' := [(4, .int (f_X2_nearestOpen Rr_21 (v2_21))), (0, .ref (g 0)), (2, .int v2_21), (3, .int (nI k21))]) hx hb dX2_searchNearest_32 hl (by decide) rfl (fun ls hl => ?_)
      refine lv_iload hx hb dX2_searchNearest_34 (lv_at hl 0 rfl) ?_
      refine lv_iconst (v := (-1)) hx hb dX2_searchNearest_36 (by decide) ?_
      refine lv_icmp_ne (tgt := 41) hx hb dX2_searchNearest_37 (by decide) (fun c_37 => ?_) (fun c_37 => ?_)
      · have hz := hz.trans (if_neg c_37)
        refine lv_iload_n hx hb dX2_searchNearest_41 rfl (lv_at hl 2 rfl) ?_
        refine lv_iconst (v := 1) hx hb dX2_searchNearest_42 (by decide) ?_
        refine lv_iload hx hb dX2_searchNearest_43 (lv_at hl 0 rfl) ?_
        refine lv_ishl hx hb dX2_searchNearest_45 ?_
        refine lv_ior hx hb dX2_searchNearest_46 ?_
        refine lv_istore_n (lv' := [(2, .int (v2_21 ||| (1 <<< ((f_X2_nearestOpen Rr_21 (v2_21)) &&& 31)))), (4, .int (f_X2_nearestOpen Rr_21 (v2_21))), (0, .ref (g 0)), (3, .int (nI k21))]) hx hb dX2_searchNearest_47 rfl hl (by decide) rfl (fun ls hl => ?_)
        refine lv_aload_n hx hb dX2_searchNearest_48 rfl (lv_at hl 2 rfl) ?_
        refine lv_iload hx hb dX2_searchNearest_49 (lv_at hl 1 rfl) ?_
        obtain ⟨ehn_1, lhn_1⟩ := nat_of (x := (f_X2_nearestOpen Rr_21 (v2_21))) (n := 8) (by exact nearestOpen_in c_37) (by omega)
        refine topN ehn_1 ?_
        have hFc := va_free (wc := (grcells C g (a 0) Rr_21 ++ gcells C a G)) hD hS hA [0, 1, 2, 3, 4, 5, 6, 7, 8, 9, 10, 11, 12] rfl
        refine callRw (va_runV (As := [.int (nI ((f_X2_nearestOpen Rr_21 (v2_21))).toNatClampNeg)]) (rest := []) ⟨hx, hb, hml, hown, hts⟩ (c_X2_lookFurther l D C g Rr_21 a G (((f_X2_nearestOpen Rr_21 (v2_21))).toNatClampNeg) _ (by assumption) hG (by omega)) (cwV 1 hts gX2_searchNearest_X2_lookFurther rfl rfl rfl (by decide +kernel) ⟨Nat.le_of_ble_eq_true rfl, Nat.le_of_ble_eq_true rfl⟩) (rwP_v hP hK hE hD (va_recv hK hP (ci := 5) (q0 := 0) rfl rfl)) rfl rfl hl.1 rfl (lv_room (Nat.le_of_ble_eq_true rfl)) dX2_searchNearest_51 ⟨Nat.le_refl _, Nat.le_refl _⟩) hS hFc (fun H1 locs hPn hk hS => ?_)
        generalize hy51 : (f_X2_lookFurther Rr_21 G (((f_X2_nearestOpen Rr_21 (v2_21))).toNatClampNeg)) = y51 at hPn ⊢
        have hz := lt_eq hz hy51.symm
        have hP : va_P D vwCl (grcells C g (a 0) y51 ++ gcells C a G) H1 := hPn
        have hD : va_D A (grcells C g (a 0) y51 ++ gcells C a G) := adr_D hD rfl
        generalize H1 = H at hP hS ⊢
        refine lv_iinc (v := (nI (k21 + 1))) (lv' := [(3, .int (nI (k21 + 1))), (2, .int (v2_21 ||| (1 <<< ((f_X2_nearestOpen Rr_21 (v2_21)) &&& 31)))), (4, .int (f_X2_nearestOpen Rr_21 (v2_21))), (0, .ref (g 0))]) hx hb dX2_searchNearest_54 hl (k := 3) rfl (by exact nI_1 _) (by decide) rfl (fun ls hl => ?_)
        refine lv_goto (tgt := 21) hx hb dX2_searchNearest_57 (by decide) ?_
        exact ih21 (k21 + 1) ((v2_21 ||| (1 <<< ((f_X2_nearestOpen Rr_21 (v2_21)) &&& 31)))) (y51) _ _ ls (by omega) (by rw [hq21, hz]; rfl)  hP hD hS (lv_sub hl [3, 1, 0] rfl)
      · have hz := hz.trans (if_pos c_37)
        have hz := up1 hq21 hz
        have hz : z = Rr_21 := hz
        rw [hz]
        exact rw_retV hx hb hr hP hS dX2_searchNearest_40 hlocks
  refine lv_aload_n hx hb dX2_searchNearest_0 rfl (lv_at hl 0 rfl) ?_
  refine va_get (D := D) (ci := 5) (v := .ref (g 1)) (C := RX2) (T := TX2) (N := 4) hx hb hts hinX2 hown hK hP 0 rfl rfl 1 (by decide) (hts (.fieldLink RX2 9 "BridgeAuction$Graph" "nearest" "[I") (by decide +kernel)) (fun _ h9 => h9) rfl dX2_searchNearest_1 ?_
  refine lv_sipush (v := 1000) hx hb dX2_searchNearest_4 (by decide) ?_
  have hPc := hP.sub (ws' := ([((g 1), .inl (C 0, 8, .inl (rNear Rr)))])) [1] rfl
  have hDc := hD.sub (ws' := ([((g 1), .inl (C 0, 8, .inl (rNear Rr)))])) [1] (by decide) rfl
  have hFc := va_free (wc := ([((g 1), .inl (C 0, 8, .inl (rNear Rr)))])) hD hS hA [1] rfl
  refine callRw (va_runS (As := [.ref (g 1), .int 1000]) (rest := []) ⟨hx, hb, hml, hown, hts⟩ (c_J7_fill_53178 l D C (g 1) (rNear Rr) (1000) _) (va_cwS 2 hts gX2_searchNearest_J7_fill_53178 rfl rfl rfl (by decide +kernel) ⟨Nat.le_of_ble_eq_true rfl, Nat.le_of_ble_eq_true rfl⟩) (rwP_s hPc hK hE hDc) rfl rfl hl.1 rfl (lv_room (Nat.le_of_ble_eq_true rfl)) dX2_searchNearest_7 ⟨Nat.le_refl _, Nat.le_refl _⟩) hS hFc (fun H1 locs hPn hk hS => ?_)
  generalize hy7 : (f_J7_fill_53178 (rNear Rr) (1000)) = y7 at hPn ⊢
  have hz := lt_eq hz hy7.symm
  have hP : va_P D vwCl (grcells C g (a 0) (mkR y7 (rRlx Rr) (rPar Rr)) ++ gcells C a G) H1 := rwJoin (wr := ([(g 0, .inr (5, [.ref (a 0), .ref (g 1), .ref (g 2), .ref (g 3)])), (g 2, .inl (C 0, 8, .inl (rRlx Rr))), (g 3, .inl (C 0, 8, .inl (fun j => nI ((rPar Rr) j))))] ++ gcells C a G)) (ws' := (grcells C g (a 0) (mkR y7 (rRlx Rr) (rPar Rr)) ++ gcells C a G)) hP hD [1] [0, 2, 3, 4, 5, 6, 7, 8, 9, 10, 11, 12] rfl rfl (by decide) (by decide) (by decide) hk hFc hPn rfl [0, 12, 1, 2, 3, 4, 5, 6, 7, 8, 9, 10, 11] rfl
  have hD : va_D A (grcells C g (a 0) (mkR y7 (rRlx Rr) (rPar Rr)) ++ gcells C a G) := adr_D hD rfl
  generalize H1 = H at hP hS ⊢
  refine lv_aload_n hx hb dX2_searchNearest_10 rfl (lv_at hl 0 rfl) ?_
  refine va_get (D := D) (ci := 5) (v := .ref (g 1)) (C := RX2) (T := TX2) (N := 4) hx hb hts hinX2 hown hK hP 0 rfl rfl 1 (by decide) (hts (.fieldLink RX2 9 "BridgeAuction$Graph" "nearest" "[I") (by decide +kernel)) (fun _ h9 => h9) rfl dX2_searchNearest_11 ?_
  refine lv_iload_n hx hb dX2_searchNearest_14 rfl (lv_at hl 1 rfl) ?_
  refine lv_iconst (v := 0) hx hb dX2_searchNearest_15 (by decide) ?_
  refine iastN (tys := tyA C) hx hb hK hP hD hS 1 0 rfl rfl (i := i) (by omega) (by decide) dX2_searchNearest_16 (fun H locs hP hD hS => ?_)
  have hP : va_P D vwCl (grcells C g (a 0) (mkR (upd y7 i 0) (rRlx Rr) (rPar Rr)) ++ gcells C a G) H := hP
  have hD : va_D A (grcells C g (a 0) (mkR (upd y7 i 0) (rRlx Rr) (rPar Rr)) ++ gcells C a G) := hD
  refine lv_iconst (v := 0) hx hb dX2_searchNearest_17 (by decide) ?_
  refine lv_istore_n (lv' := [(2, .int 0), (0, .ref (g 0)), (1, .int (nI i))]) hx hb dX2_searchNearest_18 rfl hl (by decide) rfl (fun ls hl => ?_)
  refine lv_iconst (v := 0) hx hb dX2_searchNearest_19 (by decide) ?_
  refine lv_istore_n (lv' := [(3, .int 0), (2, .int 0), (0, .ref (g 0)), (1, .int (nI i))]) hx hb dX2_searchNearest_20 rfl hl (by decide) rfl (fun ls hl => ?_)
  exact J21 (8) 0 (0) ((mkR (upd y7 i 0) (rRlx Rr) (rPar Rr))) _ _ ls (by omega) hz  hP hD hS (lv_sub hl [2, 1, 0] rfl)

def f_X2_relaxAll_j106  (rlx0_106 : (Nat → Int32)) : Sum (GR) ((Nat → Int32)) := (Sum.inr rlx0_106)
def f_X2_relaxAll_l2b (Rr : GR) (G : GS) (k2 : Nat) (rlx0_2 : (Nat → Int32)) : Sum (GR) ((Nat → Int32)) := (if (f_X1_hasBridge G (k2)) = true then (f_X2_relaxAll_j106 ((upd (upd rlx0_2 ((gHi G) k2) (imin (rlx0_2 ((gHi G) k2)) ((rlx0_2 ((gLo G) k2)) + ((gLen G) k2)))) ((gLo G) k2) (imin ((upd rlx0_2 ((gHi G) k2) (imin (rlx0_2 ((gHi G) k2)) ((rlx0_2 ((gLo G) k2)) + ((gLen G) k2)))) ((gLo G) k2)) (((upd rlx0_2 ((gHi G) k2) (imin (rlx0_2 ((gHi G) k2)) ((rlx0_2 ((gLo G) k2)) + ((gLen G) k2)))) ((gHi G) k2)) + ((gLen G) k2)))))) else (f_X2_relaxAll_j106 (rlx0_2)))
def f_X2_relaxAll_l2x (Rr : GR) (G : GS) (rlx0_2 : (Nat → Int32)) : GR := (mkR (rNear Rr) rlx0_2 (rPar Rr))
def f_X2_relaxAll_l2s (Rr : GR) (G : GS) (k2 : Nat) (q_ : (Nat → Int32)) : Sum (GR) ((Nat → Int32)) := f_X2_relaxAll_l2b Rr G k2 (q_)
def f_X2_relaxAll_l2e (Rr : GR) (G : GS) (q_ : (Nat → Int32)) : GR := f_X2_relaxAll_l2x Rr G (q_)
def f_X2_relaxAll_l2 (Rr : GR) (G : GS) (n2 k2 : Nat) (rlx0_2 : (Nat → Int32)) : GR := lpF (f_X2_relaxAll_l2s Rr G) (f_X2_relaxAll_l2e Rr G) n2 k2 rlx0_2
def f_X2_relaxAll (Rr : GR) (G : GS) : GR := (f_X2_relaxAll_l2 Rr G (gS G) 0 ((rRlx Rr)))
set_option maxHeartbeats 4000000 in
set_option maxRecDepth 100000 in
theorem c_X2_relaxAll (l : Launch) (D : va_G) (C : Nat → ClassId) (g : Nat → Nat) (Rr : GR) (a : Nat → Nat) (G : GS) (sz : Nat) (hR : RSafe Rr) (hG : GSafe G) : Met l yX2_relaxAll wsX2_relaxAll ({ frames := 1, cells := 0, slots := 0, locals := 21 } : Room) (rwP [.ref (g 0)] D C (grcells C g (a 0) Rr ++ gcells C a G) sz) (rwO none D (grcells C g (a 0) ((f_X2_relaxAll Rr G)) ++ gcells C a G) (va_A (grcells C g (a 0) Rr ++ gcells C a G) sz)) 0 0 (va_A (grcells C g (a 0) Rr ++ gcells C a G) sz) := by
  refine Met.ofW (cc := cX2_relaxAll) (maxL := 4) (ret := none) (by decide) rfl ?_
  intro p e s m args below meth c s₁ B hml hv
  obtain ⟨rfl, hsz, hP, hK, hD0, hE⟩ := hv
  have hx := B.exec
  have hb := B.bytes
  have hr := B.returns
  have hts := atoms_spec (ws := wsX2_relaxAll) B.pre
  have hown : s.vm.findClass RX2 = some m.cls := findClass_of_methodNamed B.named
  have hlocks := B.notSynchronized
  subst hsz
  have hD := hD0.self (sz := s.heap.size)
  generalize hAe : va_A (grcells C g (a 0) Rr ++ gcells C a G) s.heap.size = A at hD ⊢
  have hA : ∀ q : Nat, s.heap.size ≤ q → A q := fun q h => by rw [← hAe]; exact Or.inr h
  have hS0 : va_S A s.heap s.heap [] := va_S.rf
  have hP : va_P D vwCl (grcells C g (a 0) Rr ++ gcells C a G) s.heap := hP
  have hS := hS0
  obtain hpar := id hR
  obtain ⟨hS12, hP4, hlo, hhi⟩ := id hG
  have hinX1 : ∀ w ∈ u_ws RX1 TX1 16, w ∈ wsX2_relaxAll := by decide +kernel
  have hinX2 : ∀ w ∈ u_ws RX2 TX2 4, w ∈ wsX2_relaxAll := by decide +kernel
  have hl := lv_entry ([.ref (g 0)]) (n := 4) (Nat.le_of_ble_eq_true rfl)
  rw [lg_entry_eq]
  generalize (lg_sl ([.ref (g 0)]) ++ List.replicate (4 - (lg_sl ([.ref (g 0)])).length) Slot.unset).toArray = ls at hl ⊢
  have hl : lv_has ls 4 [(0, .ref (g 0))] := hl
  obtain ⟨z, hz⟩ : ∃ z, z = f_X2_relaxAll Rr G := ⟨_, rfl⟩
  rw [← hz]
  have J2 : ∀ (n2 k2 : Nat) (rlx0_2 : (Nat → Int32)) (H : Heap) (locs : List Loc) (ls : Array Slot), k2 + n2 = gS G → z = f_X2_relaxAll_l2 Rr G n2 k2 rlx0_2 → va_P D vwCl (grcells C g (a 0) (mkR (rNear Rr) rlx0_2 (rPar Rr)) ++ gcells C a G) H → va_D A (grcells C g (a 0) (mkR (rNear Rr) rlx0_2 (rPar Rr)) ++ gcells C a G) → va_S A s.heap H locs → lv_has ls 4 [(0, .ref (g 0)), (1, .int (nI k2))] → W p l e ({ frames := 1, cells := 0, slots := 0, locals := 21 } : Room) s m ([.ref (g 0)] : List Value).toArray below meth c H locs 0 0 (MQ below (rwO none D (grcells C g (a 0) z ++ gcells C a G) A) ([.ref (g 0)] : List Value).toArray s 0 0 A) (F0 m 2 ls []) := by
    intro n2
    induction n2 with
    | zero =>
      intro k2 rlx0_2 H locs ls hk2 hz  hP hD hS hl
      have hz : z = f_X2_relaxAll_l2x Rr G rlx0_2 := hz
      refine lv_iload_n hx hb dX2_relaxAll_2 rfl (lv_at hl 1 rfl) ?_
      refine lv_aload_n hx hb dX2_relaxAll_3 rfl (lv_at hl 0 rfl) ?_
      refine va_get (D := D) (ci := 5) (v := .ref (a 0)) (C := RX2) (T := TX2) (N := 4) hx hb hts hinX2 hown hK hP 0 rfl rfl 0 (by decide) (hts (.fieldLink RX2 21 "BridgeAuction$Graph" "game" "LBridgeAuction$Game;") (by decide +kernel)) (fun _ h9 => h9) rfl dX2_relaxAll_4 ?_
      refine va_getN (D := D) (ci := 4) (v := .int (nI (gS G))) (C := RX1) (T := TX1) (N := 16) hx hb hts hinX1 hown hK hP 4 rfl rfl 5 (by decide) (hE.use 4 rfl) (fun _ h9 => h9) rfl dX2_relaxAll_7 ?_
      refine lv_icmp_ge (tgt := 112) hx hb dX2_relaxAll_10 (by decide) (fun c_10 => ?_) (fun c_10 => absurd (nI_le (by omega) (by omega)) c_10)
      have hz : z = (mkR (rNear Rr) rlx0_2 (rPar Rr)) := hz
      rw [hz]
      exact rw_retV hx hb hr hP hS dX2_relaxAll_112 hlocks
    | succ n2 ih2 =>
      intro k2 rlx0_2 H locs ls hk2 hz2  hP hD hS hl
      obtain ⟨z2, hz⟩ : ∃ zz_, zz_ = f_X2_relaxAll_l2b Rr G k2 rlx0_2 := ⟨_, rfl⟩
      have hq2 : z = sE id (fun q_ => lpF (f_X2_relaxAll_l2s Rr G) (f_X2_relaxAll_l2e Rr G) n2 (k2 + 1) q_) z2 := by rw [hz2, hz]; rfl
      have J106 : ∀ (rlx0_106 : (Nat → Int32))  (H : Heap) (locs : List Loc) (ls : Array Slot), z2 = f_X2_relaxAll_j106 rlx0_106 → va_P D vwCl (grcells C g (a 0) (mkR (rNear Rr) rlx0_106 (rPar Rr)) ++ gcells C a G) H → va_D A (grcells C g (a 0) (mkR (rNear Rr) rlx0_106 (rPar Rr)) ++ gcells C a G) → va_S A s.heap H locs → lv_has ls 4 [(0, .ref (g 0)), (1, .int (nI k2))] → W p l e ({ frames := 1, cells := 0, slots := 0, locals := 21 } : Room) s m ([.ref (g 0)] : List Value).toArray below meth c H locs 0 0 (MQ below (rwO none D (grcells C g (a 0) z ++ gcells C a G) A) ([.ref (g 0)] : List Value).toArray s 0 0 A) (F0 m 106 ls []) := by
        intro rlx0_106 H locs ls hz  hP hD hS hl
        refine lv_iinc (v := (nI (k2 + 1))) (lv' := [(1, .int (nI (k2 + 1))), (0, .ref (g 0))]) hx hb dX2_relaxAll_106 hl (k := 1) rfl (by exact nI_1 _) (by decide) rfl (fun ls hl => ?_)
        refine lv_goto (tgt := 2) hx hb dX2_relaxAll_109 (by decide) ?_
        exact ih2 (k2 + 1) (rlx0_106) _ _ ls (by omega) (by rw [hq2, hz]; rfl)  hP hD hS (lv_sub hl [1, 0] rfl)
      refine lv_iload_n hx hb dX2_relaxAll_2 rfl (lv_at hl 1 rfl) ?_
      refine lv_aload_n hx hb dX2_relaxAll_3 rfl (lv_at hl 0 rfl) ?_
      refine va_get (D := D) (ci := 5) (v := .ref (a 0)) (C := RX2) (T := TX2) (N := 4) hx hb hts hinX2 hown hK hP 0 rfl rfl 0 (by decide) (hts (.fieldLink RX2 21 "BridgeAuction$Graph" "game" "LBridgeAuction$Game;") (by decide +kernel)) (fun _ h9 => h9) rfl dX2_relaxAll_4 ?_
      refine va_getN (D := D) (ci := 4) (v := .int (nI (gS G))) (C := RX1) (T := TX1) (N := 16) hx hb hts hinX1 hown hK hP 4 rfl rfl 5 (by decide) (hE.use 4 rfl) (fun _ h9 => h9) rfl dX2_relaxAll_7 ?_
      refine lv_icmp_ge (tgt := 112) hx hb dX2_relaxAll_10 (by decide) (fun c_10 => absurd c_10 (nI_ge (by omega) (by omega))) (fun c_10 => ?_)
      refine lv_aload_n hx hb dX2_relaxAll_13 rfl (lv_at hl 0 rfl) ?_
      refine va_get (D := D) (ci := 5) (v := .ref (a 0)) (C := RX2) (T := TX2) (N := 4) hx hb hts hinX2 hown hK hP 0 rfl rfl 0 (by decide) (hts (.fieldLink RX2 21 "BridgeAuction$Graph" "game" "LBridgeAuction$Game;") (by decide +kernel)) (fun _ h9 => h9) rfl dX2_relaxAll_14 ?_
      refine lv_iload_n hx hb dX2_relaxAll_17 rfl (lv_at hl 1 rfl) ?_
      refine callRo (va_runV (As := [.int (nI k2)]) (rest := []) ⟨hx, hb, hml, hown, hts⟩ (c_X1_hasBridge l D C a G (k2) hG (by omega)) (cwV 1 hts gX2_relaxAll_X1_hasBridge rfl rfl rfl (by decide +kernel) ⟨Nat.le_of_ble_eq_true rfl, Nat.le_of_ble_eq_true rfl⟩) (roP_v (hP.sub (ws' := (gcells C a G)) [4, 5, 6, 7, 8, 9, 10, 11, 12] rfl) hK hE (va_recv hK (hP.sub (ws' := (gcells C a G)) [4, 5, 6, 7, 8, 9, 10, 11, 12] rfl) (ci := 4) (q0 := 0) rfl rfl)) rfl rfl hl.1 rfl (lv_room (Nat.le_of_ble_eq_true rfl)) dX2_relaxAll_18 ⟨Nat.le_refl _, Nat.le_refl _⟩) ?_
      refine bif_eq (tgt := 106) hx hb dX2_relaxAll_21 (by decide) (fun c_21 => ?_) (fun c_21 => ?_)
      · have hz := hz.trans (ifB_f c_21)
        exact J106 (rlx0_2) _ _ ls hz  hP hD hS (lv_sub hl [0, 1] rfl)
      · have hz := hz.trans (ifB_t c_21)
        refine lv_aload_n hx hb dX2_relaxAll_24 rfl (lv_at hl 0 rfl) ?_
        refine va_get (D := D) (ci := 5) (v := .ref (a 0)) (C := RX2) (T := TX2) (N := 4) hx hb hts hinX2 hown hK hP 0 rfl rfl 0 (by decide) (hts (.fieldLink RX2 21 "BridgeAuction$Graph" "game" "LBridgeAuction$Game;") (by decide +kernel)) (fun _ h9 => h9) rfl dX2_relaxAll_25 ?_
        refine va_getN (D := D) (ci := 4) (v := .ref (a 3)) (C := RX1) (T := TX1) (N := 16) hx hb hts hinX1 hown hK hP 4 rfl rfl 6 (by decide) (hE.use 6 rfl) (fun _ h9 => h9) rfl dX2_relaxAll_28 ?_
        refine lv_iload_n hx hb dX2_relaxAll_31 rfl (lv_at hl 1 rfl) ?_
        refine ialdN (tys := tyA C) hx hb hK hP 7 0 rfl rfl (i := k2) (by omega) (by decide) dX2_relaxAll_32 ?_
        have hb_1 := hlo (k2)
        refine lv_istore_n (lv' := [(2, .int (nI ((gLo G) k2))), (0, .ref (g 0)), (1, .int (nI k2))]) hx hb dX2_relaxAll_33 rfl hl (by decide) rfl (fun ls hl => ?_)
        refine lv_aload_n hx hb dX2_relaxAll_34 rfl (lv_at hl 1 rfl) ?_
        refine va_get (D := D) (ci := 5) (v := .ref (a 0)) (C := RX2) (T := TX2) (N := 4) hx hb hts hinX2 hown hK hP 0 rfl rfl 0 (by decide) (hts (.fieldLink RX2 21 "BridgeAuction$Graph" "game" "LBridgeAuction$Game;") (by decide +kernel)) (fun _ h9 => h9) rfl dX2_relaxAll_35 ?_
        refine va_getN (D := D) (ci := 4) (v := .ref (a 4)) (C := RX1) (T := TX1) (N := 16) hx hb hts hinX1 hown hK hP 4 rfl rfl 7 (by decide) (hE.use 8 rfl) (fun _ h9 => h9) rfl dX2_relaxAll_38 ?_
        refine lv_iload_n hx hb dX2_relaxAll_41 rfl (lv_at hl 2 rfl) ?_
        refine ialdN (tys := tyA C) hx hb hK hP 8 0 rfl rfl (i := k2) (by omega) (by decide) dX2_relaxAll_42 ?_
        have hb_2 := hhi (k2)
        refine lv_istore_n (lv' := [(3, .int (nI ((gHi G) k2))), (2, .int (nI ((gLo G) k2))), (0, .ref (g 0)), (1, .int (nI k2))]) hx hb dX2_relaxAll_43 rfl hl (by decide) rfl (fun ls hl => ?_)
        refine lv_aload_n hx hb dX2_relaxAll_44 rfl (lv_at hl 2 rfl) ?_
        refine va_get (D := D) (ci := 5) (v := .ref (g 2)) (C := RX2) (T := TX2) (N := 4) hx hb hts hinX2 hown hK hP 0 rfl rfl 2 (by decide) (hts (.fieldLink RX2 15 "BridgeAuction$Graph" "relaxed" "[I") (by decide +kernel)) (fun _ h9 => h9) rfl dX2_relaxAll_45 ?_
        refine lv_iload_n hx hb dX2_relaxAll_48 rfl (lv_at hl 0 rfl) ?_
        refine lv_aload_n hx hb dX2_relaxAll_49 rfl (lv_at hl 2 rfl) ?_
        refine va_get (D := D) (ci := 5) (v := .ref (g 2)) (C := RX2) (T := TX2) (N := 4) hx hb hts hinX2 hown hK hP 0 rfl rfl 2 (by decide) (hts (.fieldLink RX2 15 "BridgeAuction$Graph" "relaxed" "[I") (by decide +kernel)) (fun _ h9 => h9) rfl dX2_relaxAll_50 ?_
        refine lv_iload_n hx hb dX2_relaxAll_53 rfl (lv_at hl 0 rfl) ?_
        refine ialdN (tys := tyA C) hx hb hK hP 2 0 rfl rfl (i := ((gHi G) k2)) (by omega) (by decide) dX2_relaxAll_54 ?_
        refine lv_aload_n hx hb dX2_relaxAll_55 rfl (lv_at hl 2 rfl) ?_
        refine va_get (D := D) (ci := 5) (v := .ref (g 2)) (C := RX2) (T := TX2) (N := 4) hx hb hts hinX2 hown hK hP 0 rfl rfl 2 (by decide) (hts (.fieldLink RX2 15 "BridgeAuction$Graph" "relaxed" "[I") (by decide +kernel)) (fun _ h9 => h9) rfl dX2_relaxAll_56 ?_
        refine lv_iload_n hx hb dX2_relaxAll_59 rfl (lv_at hl 1 rfl) ?_
        refine ialdN (tys := tyA C) hx hb hK hP 2 0 rfl rfl (i := ((gLo G) k2)) (by omega) (by decide) dX2_relaxAll_60 ?_
        refine lv_aload_n hx hb dX2_relaxAll_61 rfl (lv_at hl 2 rfl) ?_
        refine va_get (D := D) (ci := 5) (v := .ref (a 0)) (C := RX2) (T := TX2) (N := 4) hx hb hts hinX2 hown hK hP 0 rfl rfl 0 (by decide) (hts (.fieldLink RX2 21 "BridgeAuction$Graph" "game" "LBridgeAuction$Game;") (by decide +kernel)) (fun _ h9 => h9) rfl dX2_relaxAll_62 ?_
        refine va_getN (D := D) (ci := 4) (v := .ref (a 5)) (C := RX1) (T := TX1) (N := 16) hx hb hts hinX1 hown hK hP 4 rfl rfl 8 (by decide) (hE.use 10 rfl) (fun _ h9 => h9) rfl dX2_relaxAll_65 ?_
        refine lv_iload_n hx hb dX2_relaxAll_68 rfl (lv_at hl 3 rfl) ?_
        refine ialdN (tys := tyA C) hx hb hK hP 9 0 rfl rfl (i := k2) (by omega) (by decide) dX2_relaxAll_69 ?_
        refine lv_iadd hx hb dX2_relaxAll_70 ?_
        refine va_mmin hx hb (hml.trans hl.1.symm) hown (hts (.methodLink RX2 56 Lib.Math.min.name) (by decide +kernel)) (hts (.static Lib.Math.min.name) (by decide +kernel)) (hts (.initialized "java/lang/Math") (by decide +kernel)) (hts (.code Lib.Math.min.name Lib.Math.min.code 2 (some .int)) (by decide +kernel)) (Nat.le_of_ble_eq_true rfl) (Nat.le_of_ble_eq_true rfl) (Nat.le_of_ble_eq_true rfl) (Nat.le_of_ble_eq_true rfl) dX2_relaxAll_71 ?_
        refine topI (y := (imin (rlx0_2 ((gHi G) k2)) ((rlx0_2 ((gLo G) k2)) + ((gLen G) k2)))) rfl ?_
        refine iastN (tys := tyA C) hx hb hK hP hD hS 2 0 rfl rfl (i := ((gHi G) k2)) (by omega) (by decide) dX2_relaxAll_74 (fun H locs hP hD hS => ?_)
        have hP : va_P D vwCl (grcells C g (a 0) (mkR (rNear Rr) (upd rlx0_2 ((gHi G) k2) (imin (rlx0_2 ((gHi G) k2)) ((rlx0_2 ((gLo G) k2)) + ((gLen G) k2)))) (rPar Rr)) ++ gcells C a G) H := hP
        have hD : va_D A (grcells C g (a 0) (mkR (rNear Rr) (upd rlx0_2 ((gHi G) k2) (imin (rlx0_2 ((gHi G) k2)) ((rlx0_2 ((gLo G) k2)) + ((gLen G) k2)))) (rPar Rr)) ++ gcells C a G) := hD
        refine lv_aload_n hx hb dX2_relaxAll_75 rfl (lv_at hl 2 rfl) ?_
        refine va_get (D := D) (ci := 5) (v := .ref (g 2)) (C := RX2) (T := TX2) (N := 4) hx hb hts hinX2 hown hK hP 0 rfl rfl 2 (by decide) (hts (.fieldLink RX2 15 "BridgeAuction$Graph" "relaxed" "[I") (by decide +kernel)) (fun _ h9 => h9) rfl dX2_relaxAll_76 ?_
        refine lv_iload_n hx hb dX2_relaxAll_79 rfl (lv_at hl 1 rfl) ?_
        refine lv_aload_n hx hb dX2_relaxAll_80 rfl (lv_at hl 2 rfl) ?_
        refine va_get (D := D) (ci := 5) (v := .ref (g 2)) (C := RX2) (T := TX2) (N := 4) hx hb hts hinX2 hown hK hP 0 rfl rfl 2 (by decide) (hts (.fieldLink RX2 15 "BridgeAuction$Graph" "relaxed" "[I") (by decide +kernel)) (fun _ h9 => h9) rfl dX2_relaxAll_81 ?_
        refine lv_iload_n hx hb dX2_relaxAll_84 rfl (lv_at hl 1 rfl) ?_
        refine ialdN (tys := tyA C) hx hb hK hP 2 0 rfl rfl (i := ((gLo G) k2)) (by omega) (by decide) dX2_relaxAll_85 ?_
        refine lv_aload_n hx hb dX2_relaxAll_86 rfl (lv_at hl 2 rfl) ?_
        refine va_get (D := D) (ci := 5) (v := .ref (g 2)) (C := RX2) (T := TX2) (N := 4) hx hb hts hinX2 hown hK hP 0 rfl rfl 2 (by decide) (hts (.fieldLink RX2 15 "BridgeAuction$Graph" "relaxed" "[I") (by decide +kernel)) (fun _ h9 => h9) rfl dX2_relaxAll_87 ?_
        refine lv_iload_n hx hb dX2_relaxAll_90 rfl (lv_at hl 0 rfl) ?_
        refine ialdN (tys := tyA C) hx hb hK hP 2 0 rfl rfl (i := ((gHi G) k2)) (by omega) (by decide) dX2_relaxAll_91 ?_
        refine lv_aload_n hx hb dX2_relaxAll_92 rfl (lv_at hl 2 rfl) ?_
        refine va_get (D := D) (ci := 5) (v := .ref (a 0)) (C := RX2) (T := TX2) (N := 4) hx hb hts hinX2 hown hK hP 0 rfl rfl 0 (by decide) (hts (.fieldLink RX2 21 "BridgeAuction$Graph" "game" "LBridgeAuction$Game;") (by decide +kernel)) (fun _ h9 => h9) rfl dX2_relaxAll_93 ?_
        refine va_getN (D := D) (ci := 4) (v := .ref (a 5)) (C := RX1) (T := TX1) (N := 16) hx hb hts hinX1 hown hK hP 4 rfl rfl 8 (by decide) (hE.use 10 rfl) (fun _ h9 => h9) rfl dX2_relaxAll_96 ?_
        refine lv_iload_n hx hb dX2_relaxAll_99 rfl (lv_at hl 3 rfl) ?_
        refine ialdN (tys := tyA C) hx hb hK hP 9 0 rfl rfl (i := k2) (by omega) (by decide) dX2_relaxAll_100 ?_
        refine lv_iadd hx hb dX2_relaxAll_101 ?_
        refine va_mmin hx hb (hml.trans hl.1.symm) hown (hts (.methodLink RX2 56 Lib.Math.min.name) (by decide +kernel)) (hts (.static Lib.Math.min.name) (by decide +kernel)) (hts (.initialized "java/lang/Math") (by decide +kernel)) (hts (.code Lib.Math.min.name Lib.Math.min.code 2 (some .int)) (by decide +kernel)) (Nat.le_of_ble_eq_true rfl) (Nat.le_of_ble_eq_true rfl) (Nat.le_of_ble_eq_true rfl) (Nat.le_of_ble_eq_true rfl) dX2_relaxAll_102 ?_
        refine topI (y := (imin ((upd rlx0_2 ((gHi G) k2) (imin (rlx0_2 ((gHi G) k2)) ((rlx0_2 ((gLo G) k2)) + ((gLen G) k2)))) ((gLo G) k2)) (((upd rlx0_2 ((gHi G) k2) (imin (rlx0_2 ((gHi G) k2)) ((rlx0_2 ((gLo G) k2)) + ((gLen G) k2)))) ((gHi G) k2)) + ((gLen G) k2)))) rfl ?_
        refine iastN (tys := tyA C) hx hb hK hP hD hS 2 0 rfl rfl (i := ((gLo G) k2)) (by omega) (by decide) dX2_relaxAll_105 (fun H locs hP hD hS => ?_)
        have hP : va_P D vwCl (grcells C g (a 0) (mkR (rNear Rr) (upd (upd rlx0_2 ((gHi G) k2) (imin (rlx0_2 ((gHi G) k2)) ((rlx0_2 ((gLo G) k2)) + ((gLen G) k2)))) ((gLo G) k2) (imin ((upd rlx0_2 ((gHi G) k2) (imin (rlx0_2 ((gHi G) k2)) ((rlx0_2 ((gLo G) k2)) + ((gLen G) k2)))) ((gLo G) k2)) (((upd rlx0_2 ((gHi G) k2) (imin (rlx0_2 ((gHi G) k2)) ((rlx0_2 ((gLo G) k2)) + ((gLen G) k2)))) ((gHi G) k2)) + ((gLen G) k2)))) (rPar Rr)) ++ gcells C a G) H := hP
        have hD : va_D A (grcells C g (a 0) (mkR (rNear Rr) (upd (upd rlx0_2 ((gHi G) k2) (imin (rlx0_2 ((gHi G) k2)) ((rlx0_2 ((gLo G) k2)) + ((gLen G) k2)))) ((gLo G) k2) (imin ((upd rlx0_2 ((gHi G) k2) (imin (rlx0_2 ((gHi G) k2)) ((rlx0_2 ((gLo G) k2)) + ((gLen G) k2)))) ((gLo G) k2)) (((upd rlx0_2 ((gHi G) k2) (imin (rlx0_2 ((gHi G) k2)) ((rlx0_2 ((gLo G) k2)) + ((gLen G) k2)))) ((gHi G) k2)) + ((gLen G) k2)))) (rPar Rr)) ++ gcells C a G) := hD
        exact J106 ((upd (upd rlx0_2 ((gHi G) k2) (imin (rlx0_2 ((gHi G) k2)) ((rlx0_2 ((gLo G) k2)) + ((gLen G) k2)))) ((gLo G) k2) (imin ((upd rlx0_2 ((gHi G) k2) (imin (rlx0_2 ((gHi G) k2)) ((rlx0_2 ((gLo G) k2)) + ((gLen G) k2)))) ((gLo G) k2)) (((upd rlx0_2 ((gHi G) k2) (imin (rlx0_2 ((gHi G) k2)) ((rlx0_2 ((gLo G) k2)) + ((gLen G) k2)))) ((gHi G) k2)) + ((gLen G) k2))))) _ _ ls hz  hP hD hS (lv_sub hl [2, 3] rfl)
  refine lv_iconst (v := 0) hx hb dX2_relaxAll_0 (by decide) ?_
  refine lv_istore_n (lv' := [(1, .int 0), (0, .ref (g 0))]) hx hb dX2_relaxAll_1 rfl hl (by decide) rfl (fun ls hl => ?_)
  exact J2 (gS G) 0 ((rRlx Rr)) _ _ ls (by omega) hz  hP hD hS (lv_sub hl [1, 0] rfl)

def f_X2_relaxFrom_l19b (G : GS) (k19 : Nat) (Rr_19 : GR) : Sum (GR) (GR) := (lt_ (f_X2_relaxAll Rr_19 G) (fun y26 => (Sum.inr y26)))
def f_X2_relaxFrom_l19x (G : GS) (Rr_19 : GR) : GR := Rr_19
def f_X2_relaxFrom_l19s (G : GS) (k19 : Nat) (q_ : GR) : Sum (GR) (GR) := f_X2_relaxFrom_l19b G k19 (q_)
def f_X2_relaxFrom_l19e (G : GS) (q_ : GR) : GR := f_X2_relaxFrom_l19x G (q_)
def f_X2_relaxFrom_l19 (G : GS) (n19 k19 : Nat) (Rr_19 : GR) : GR := lpF (f_X2_relaxFrom_l19s G) (f_X2_relaxFrom_l19e G) n19 k19 Rr_19
def f_X2_relaxFrom (Rr : GR) (G : GS) (i : Nat) : GR := (lt_ (f_J7_fill_53178 (rRlx Rr) (1000)) (fun y7 => (f_X2_relaxFrom_l19 G (8 - 1) 1 ((mkR (rNear Rr) (upd y7 i 0) (rPar Rr))))))
set_option maxHeartbeats 4000000 in
set_option maxRecDepth 100000 in
theorem c_X2_relaxFrom (l : Launch) (D : va_G) (C : Nat → ClassId) (g : Nat → Nat) (Rr : GR) (a : Nat → Nat) (G : GS) (i : Nat) (sz : Nat) (hR : RSafe Rr) (hG : GSafe G) (h_i : i < 8) : Met l yX2_relaxFrom wsX2_relaxFrom ({ frames := 2, cells := 0, slots := 0, locals := 44 } : Room) (rwP [.ref (g 0), .int (nI i)] D C (grcells C g (a 0) Rr ++ gcells C a G) sz) (rwO none D (grcells C g (a 0) ((f_X2_relaxFrom Rr G i)) ++ gcells C a G) (va_A (grcells C g (a 0) Rr ++ gcells C a G) sz)) 0 0 (va_A (grcells C g (a 0) Rr ++ gcells C a G) sz) := by
  refine Met.ofW (cc := cX2_relaxFrom) (maxL := 3) (ret := none) (by decide) rfl ?_
  intro p e s m args below meth c s₁ B hml hv
  obtain ⟨rfl, hsz, hP, hK, hD0, hE⟩ := hv
  have hx := B.exec
  have hb := B.bytes
  have hr := B.returns
  have hts := atoms_spec (ws := wsX2_relaxFrom) B.pre
  have hown : s.vm.findClass RX2 = some m.cls := findClass_of_methodNamed B.named
  have hlocks := B.notSynchronized
  subst hsz
  have hD := hD0.self (sz := s.heap.size)
  generalize hAe : va_A (grcells C g (a 0) Rr ++ gcells C a G) s.heap.size = A at hD ⊢
  have hA : ∀ q : Nat, s.heap.size ≤ q → A q := fun q h => by rw [← hAe]; exact Or.inr h
  have hS0 : va_S A s.heap s.heap [] := va_S.rf
  have hP : va_P D vwCl (grcells C g (a 0) Rr ++ gcells C a G) s.heap := hP
  have hS := hS0
  obtain hpar := id hR
  obtain ⟨hS12, hP4, hlo, hhi⟩ := id hG
  have hinX2 : ∀ w ∈ u_ws RX2 TX2 4, w ∈ wsX2_relaxFrom := by decide +kernel
  have hl := lv_entry ([.ref (g 0), .int (nI i)]) (n := 3) (Nat.le_of_ble_eq_true rfl)
  rw [lg_entry_eq]
  generalize (lg_sl ([.ref (g 0), .int (nI i)]) ++ List.replicate (3 - (lg_sl ([.ref (g 0), .int (nI i)])).length) Slot.unset).toArray = ls at hl ⊢
  have hl : lv_has ls 3 [(0, .ref (g 0)), (1, .int (nI i))] := hl
  obtain ⟨z, hz⟩ : ∃ z, z = f_X2_relaxFrom Rr G i := ⟨_, rfl⟩
  rw [← hz]
  have J19 : ∀ (n19 k19 : Nat) (Rr_19 : GR) (H : Heap) (locs : List Loc) (ls : Array Slot), k19 + n19 = 8 → z = f_X2_relaxFrom_l19 G n19 k19 Rr_19 → va_P D vwCl (grcells C g (a 0) Rr_19 ++ gcells C a G) H → va_D A (grcells C g (a 0) Rr_19 ++ gcells C a G) → va_S A s.heap H locs → lv_has ls 3 [(0, .ref (g 0)), (2, .int (nI k19))] → W p l e ({ frames := 2, cells := 0, slots := 0, locals := 44 } : Room) s m ([.ref (g 0), .int (nI i)] : List Value).toArray below meth c H locs 0 0 (MQ below (rwO none D (grcells C g (a 0) z ++ gcells C a G) A) ([.ref (g 0), .int (nI i)] : List Value).toArray s 0 0 A) (F0 m 19 ls []) := by
    intro n19
    induction n19 with
    | zero =>
      intro k19 Rr_19 H locs ls hk19 hz  hP hD hS hl
      have hz : z = f_X2_relaxFrom_l19x G Rr_19 := hz
      refine lv_iload_n hx hb dX2_relaxFrom_19 rfl (lv_at hl 1 rfl) ?_
      refine lv_bipush (v := 8) hx hb dX2_relaxFrom_20 (by decide) ?_
      refine lv_icmp_ge (tgt := 35) hx hb dX2_relaxFrom_22 (by decide) (fun c_22 => ?_) (fun c_22 => absurd (by have e : (8 : Int32) = nI 8 := (by decide); rw [e]; exact nI_le (by omega) (by omega)) c_22)
      have hz : z = Rr_19 := hz
      rw [hz]
      exact rw_retV hx hb hr hP hS dX2_relaxFrom_35 hlocks
    | succ n19 ih19 =>
      intro k19 Rr_19 H locs ls hk19 hz19  hP hD hS hl
      obtain ⟨z19, hz⟩ : ∃ zz_, zz_ = f_X2_relaxFrom_l19b G k19 Rr_19 := ⟨_, rfl⟩
      have hq19 : z = sE id (fun q_ => lpF (f_X2_relaxFrom_l19s G) (f_X2_relaxFrom_l19e G) n19 (k19 + 1) q_) z19 := by rw [hz19, hz]; rfl
      refine lv_iload_n hx hb dX2_relaxFrom_19 rfl (lv_at hl 1 rfl) ?_
      refine lv_bipush (v := 8) hx hb dX2_relaxFrom_20 (by decide) ?_
      refine lv_icmp_ge (tgt := 35) hx hb dX2_relaxFrom_22 (by decide) (fun c_22 => absurd c_22 (by have e : (8 : Int32) = nI 8 := (by decide); rw [e]; exact nI_ge (by omega) (by omega))) (fun c_22 => ?_)
      refine lv_aload_n hx hb dX2_relaxFrom_25 rfl (lv_at hl 0 rfl) ?_
      have hFc := va_free (wc := (grcells C g (a 0) Rr_19 ++ gcells C a G)) hD hS hA [0, 1, 2, 3, 4, 5, 6, 7, 8, 9, 10, 11, 12] rfl
      refine callRw (va_runV (As := []) (rest := []) ⟨hx, hb, hml, hown, hts⟩ (c_X2_relaxAll l D C g Rr_19 a G _ (by assumption) hG) (cwV 0 hts gX2_relaxFrom_X2_relaxAll rfl rfl rfl (by decide +kernel) ⟨Nat.le_of_ble_eq_true rfl, Nat.le_of_ble_eq_true rfl⟩) (rwP_v hP hK hE hD (va_recv hK hP (ci := 5) (q0 := 0) rfl rfl)) rfl rfl hl.1 rfl (lv_room (Nat.le_of_ble_eq_true rfl)) dX2_relaxFrom_26 ⟨Nat.le_refl _, Nat.le_refl _⟩) hS hFc (fun H1 locs hPn hk hS => ?_)
      generalize hy26 : (f_X2_relaxAll Rr_19 G) = y26 at hPn ⊢
      have hz := lt_eq hz hy26.symm
      have hP : va_P D vwCl (grcells C g (a 0) y26 ++ gcells C a G) H1 := hPn
      have hD : va_D A (grcells C g (a 0) y26 ++ gcells C a G) := adr_D hD rfl
      generalize H1 = H at hP hS ⊢
      refine lv_iinc (v := (nI (k19 + 1))) (lv' := [(2, .int (nI (k19 + 1))), (0, .ref (g 0))]) hx hb dX2_relaxFrom_29 hl (k := 1) rfl (by exact nI_1 _) (by decide) rfl (fun ls hl => ?_)
      refine lv_goto (tgt := 19) hx hb dX2_relaxFrom_32 (by decide) ?_
      exact ih19 (k19 + 1) (y26) _ _ ls (by omega) (by rw [hq19, hz]; rfl)  hP hD hS (lv_sub hl [1, 0] rfl)
  refine lv_aload_n hx hb dX2_relaxFrom_0 rfl (lv_at hl 0 rfl) ?_
  refine va_get (D := D) (ci := 5) (v := .ref (g 2)) (C := RX2) (T := TX2) (N := 4) hx hb hts hinX2 hown hK hP 0 rfl rfl 2 (by decide) (hts (.fieldLink RX2 15 "BridgeAuction$Graph" "relaxed" "[I") (by decide +kernel)) (fun _ h9 => h9) rfl dX2_relaxFrom_1 ?_
  refine lv_sipush (v := 1000) hx hb dX2_relaxFrom_4 (by decide) ?_
  have hPc := hP.sub (ws' := ([((g 2), .inl (C 0, 8, .inl (rRlx Rr)))])) [2] rfl
  have hDc := hD.sub (ws' := ([((g 2), .inl (C 0, 8, .inl (rRlx Rr)))])) [2] (by decide) rfl
  have hFc := va_free (wc := ([((g 2), .inl (C 0, 8, .inl (rRlx Rr)))])) hD hS hA [2] rfl
  refine callRw (va_runS (As := [.ref (g 2), .int 1000]) (rest := []) ⟨hx, hb, hml, hown, hts⟩ (c_J7_fill_53178 l D C (g 2) (rRlx Rr) (1000) _) (va_cwS 2 hts gX2_relaxFrom_J7_fill_53178 rfl rfl rfl (by decide +kernel) ⟨Nat.le_of_ble_eq_true rfl, Nat.le_of_ble_eq_true rfl⟩) (rwP_s hPc hK hE hDc) rfl rfl hl.1 rfl (lv_room (Nat.le_of_ble_eq_true rfl)) dX2_relaxFrom_7 ⟨Nat.le_refl _, Nat.le_refl _⟩) hS hFc (fun H1 locs hPn hk hS => ?_)
  generalize hy7 : (f_J7_fill_53178 (rRlx Rr) (1000)) = y7 at hPn ⊢
  have hz := lt_eq hz hy7.symm
  have hP : va_P D vwCl (grcells C g (a 0) (mkR (rNear Rr) y7 (rPar Rr)) ++ gcells C a G) H1 := rwJoin (wr := ([(g 0, .inr (5, [.ref (a 0), .ref (g 1), .ref (g 2), .ref (g 3)])), (g 1, .inl (C 0, 8, .inl (rNear Rr))), (g 3, .inl (C 0, 8, .inl (fun j => nI ((rPar Rr) j))))] ++ gcells C a G)) (ws' := (grcells C g (a 0) (mkR (rNear Rr) y7 (rPar Rr)) ++ gcells C a G)) hP hD [2] [0, 1, 3, 4, 5, 6, 7, 8, 9, 10, 11, 12] rfl rfl (by decide) (by decide) (by decide) hk hFc hPn rfl [0, 1, 12, 2, 3, 4, 5, 6, 7, 8, 9, 10, 11] rfl
  have hD : va_D A (grcells C g (a 0) (mkR (rNear Rr) y7 (rPar Rr)) ++ gcells C a G) := adr_D hD rfl
  generalize H1 = H at hP hS ⊢
  refine lv_aload_n hx hb dX2_relaxFrom_10 rfl (lv_at hl 0 rfl) ?_
  refine va_get (D := D) (ci := 5) (v := .ref (g 2)) (C := RX2) (T := TX2) (N := 4) hx hb hts hinX2 hown hK hP 0 rfl rfl 2 (by decide) (hts (.fieldLink RX2 15 "BridgeAuction$Graph" "relaxed" "[I") (by decide +kernel)) (fun _ h9 => h9) rfl dX2_relaxFrom_11 ?_
  refine lv_iload_n hx hb dX2_relaxFrom_14 rfl (lv_at hl 1 rfl) ?_
  refine lv_iconst (v := 0) hx hb dX2_relaxFrom_15 (by decide) ?_
  refine iastN (tys := tyA C) hx hb hK hP hD hS 2 0 rfl rfl (i := i) (by omega) (by decide) dX2_relaxFrom_16 (fun H locs hP hD hS => ?_)
  have hP : va_P D vwCl (grcells C g (a 0) (mkR (rNear Rr) (upd y7 i 0) (rPar Rr)) ++ gcells C a G) H := hP
  have hD : va_D A (grcells C g (a 0) (mkR (rNear Rr) (upd y7 i 0) (rPar Rr)) ++ gcells C a G) := hD
  refine lv_iconst (v := 1) hx hb dX2_relaxFrom_17 (by decide) ?_
  refine lv_istore_n (lv' := [(2, .int 1), (0, .ref (g 0)), (1, .int (nI i))]) hx hb dX2_relaxFrom_18 rfl hl (by decide) rfl (fun ls hl => ?_)
  exact J19 (8 - 1) 1 ((mkR (rNear Rr) (upd y7 i 0) (rPar Rr))) _ _ ls (by omega) hz  hP hD hS (lv_sub hl [1, 0] rfl)

def f_X2_distancesAgree_l20b  (k20 : Nat) (Rr_20 : GR) : Sum (Sum (Bool × GR) (GR)) (GR) := (if ((rNear Rr_20) k20) = ((rRlx Rr_20) k20) then (Sum.inr Rr_20) else (Sum.inl (Sum.inl (false, Rr_20))))
def f_X2_distancesAgree_l20x  (Rr_20 : GR) : Sum (Bool × GR) (GR) := (Sum.inr Rr_20)
def f_X2_distancesAgree_l20s  (k20 : Nat) (q_ : GR) : Sum (Sum (Bool × GR) (GR)) (GR) := f_X2_distancesAgree_l20b  k20 (q_)
def f_X2_distancesAgree_l20e  (q_ : GR) : Sum (Bool × GR) (GR) := f_X2_distancesAgree_l20x  (q_)
def f_X2_distancesAgree_l20  (n20 k20 : Nat) (Rr_20 : GR) : Sum (Bool × GR) (GR) := lpF (f_X2_distancesAgree_l20s ) (f_X2_distancesAgree_l20e ) n20 k20 Rr_20
def f_X2_distancesAgree_l2b (G : GS) (k2 : Nat) (Rr_2 : GR) : Sum (Bool × GR) (GR) := (lt_ (f_X2_searchNearest Rr_2 G (k2)) (fun y10 => (lt_ (f_X2_relaxFrom y10 G (k2)) (fun y15 => (f_X2_distancesAgree_l20 (8) 0 (y15))))))
def f_X2_distancesAgree_l2x (G : GS) (Rr_2 : GR) : Bool × GR := (true, Rr_2)
def f_X2_distancesAgree_l2s (G : GS) (k2 : Nat) (q_ : GR) : Sum (Bool × GR) (GR) := f_X2_distancesAgree_l2b G k2 (q_)
def f_X2_distancesAgree_l2e (G : GS) (q_ : GR) : Bool × GR := f_X2_distancesAgree_l2x G (q_)
def f_X2_distancesAgree_l2 (G : GS) (n2 k2 : Nat) (Rr_2 : GR) : Bool × GR := lpF (f_X2_distancesAgree_l2s G) (f_X2_distancesAgree_l2e G) n2 k2 Rr_2
def f_X2_distancesAgree (Rr : GR) (G : GS) : Bool × GR := (f_X2_distancesAgree_l2 G (8) 0 (Rr))
set_option maxHeartbeats 4000000 in
set_option maxRecDepth 100000 in
theorem c_X2_distancesAgree (l : Launch) (D : va_G) (C : Nat → ClassId) (g : Nat → Nat) (Rr : GR) (a : Nat → Nat) (G : GS) (sz : Nat) (hR : RSafe Rr) (hG : GSafe G) : Met l yX2_distancesAgree wsX2_distancesAgree ({ frames := 4, cells := 0, slots := 0, locals := 90 } : Room) (rwP [.ref (g 0)] D C (grcells C g (a 0) Rr ++ gcells C a G) sz) (rwO (some (.int (bI (f_X2_distancesAgree Rr G).1))) D (grcells C g (a 0) ((f_X2_distancesAgree Rr G).2) ++ gcells C a G) (va_A (grcells C g (a 0) Rr ++ gcells C a G) sz)) 0 0 (va_A (grcells C g (a 0) Rr ++ gcells C a G) sz) := by
  refine Met.ofW (cc := cX2_distancesAgree) (maxL := 3) (ret := (some .boolean)) (by decide) rfl ?_
  intro p e s m args below meth c s₁ B hml hv
  obtain ⟨rfl, hsz, hP, hK, hD0, hE⟩ := hv
  have hx := B.exec
  have hb := B.bytes
  have hr := B.returns
  have hts := atoms_spec (ws := wsX2_distancesAgree) B.pre
  have hown : s.vm.findClass RX2 = some m.cls := findClass_of_methodNamed B.named
  have hlocks := B.notSynchronized
  subst hsz
  have hD := hD0.self (sz := s.heap.size)
  generalize hAe : va_A (grcells C g (a 0) Rr ++ gcells C a G) s.heap.size = A at hD ⊢
  have hA : ∀ q : Nat, s.heap.size ≤ q → A q := fun q h => by rw [← hAe]; exact Or.inr h
  have hS0 : va_S A s.heap s.heap [] := va_S.rf
  have hP : va_P D vwCl (grcells C g (a 0) Rr ++ gcells C a G) s.heap := hP
  have hS := hS0
  obtain hpar := id hR
  obtain ⟨hS12, hP4, hlo, hhi⟩ := id hG
  have hinX2 : ∀ w ∈ u_ws RX2 TX2 4, w ∈ wsX2_distancesAgree := by decide +kernel
  have hl := lv_entry ([.ref (g 0)]) (n := 3) (Nat.le_of_ble_eq_true rfl)
  rw [lg_entry_eq]
  generalize (lg_sl ([.ref (g 0)]) ++ List.replicate (3 - (lg_sl ([.ref (g 0)])).length) Slot.unset).toArray = ls at hl ⊢
  have hl : lv_has ls 3 [(0, .ref (g 0))] := hl
  obtain ⟨z, hz⟩ : ∃ z, z = f_X2_distancesAgree Rr G := ⟨_, rfl⟩
  rw [← hz]
  have J2 : ∀ (n2 k2 : Nat) (Rr_2 : GR) (H : Heap) (locs : List Loc) (ls : Array Slot), k2 + n2 = 8 → z = f_X2_distancesAgree_l2 G n2 k2 Rr_2 → va_P D vwCl (grcells C g (a 0) Rr_2 ++ gcells C a G) H → va_D A (grcells C g (a 0) Rr_2 ++ gcells C a G) → va_S A s.heap H locs → lv_has ls 3 [(0, .ref (g 0)), (1, .int (nI k2))] → W p l e ({ frames := 4, cells := 0, slots := 0, locals := 90 } : Room) s m ([.ref (g 0)] : List Value).toArray below meth c H locs 0 0 (MQ below (rwO (some (.int (bI z.1))) D (grcells C g (a 0) z.2 ++ gcells C a G) A) ([.ref (g 0)] : List Value).toArray s 0 0 A) (F0 m 2 ls []) := by
    intro n2
    induction n2 with
    | zero =>
      intro k2 Rr_2 H locs ls hk2 hz  hP hD hS hl
      have hz : z = f_X2_distancesAgree_l2x G Rr_2 := hz
      refine lv_iload_n hx hb dX2_distancesAgree_2 rfl (lv_at hl 1 rfl) ?_
      refine lv_bipush (v := 8) hx hb dX2_distancesAgree_3 (by decide) ?_
      refine lv_icmp_ge (tgt := 55) hx hb dX2_distancesAgree_5 (by decide) (fun c_5 => ?_) (fun c_5 => absurd (by have e : (8 : Int32) = nI 8 := (by decide); rw [e]; exact nI_le (by omega) (by omega)) c_5)
      refine lv_iconst (v := 1) hx hb dX2_distancesAgree_55 (by decide) ?_
      have hz : z = (true, Rr_2) := hz
      rw [hz]
      exact rw_retB hx hb hr hP hS rfl dX2_distancesAgree_56 hlocks
    | succ n2 ih2 =>
      intro k2 Rr_2 H locs ls hk2 hz2  hP hD hS hl
      obtain ⟨z2, hz⟩ : ∃ zz_, zz_ = f_X2_distancesAgree_l2b G k2 Rr_2 := ⟨_, rfl⟩
      have hq2 : z = sE id (fun q_ => lpF (f_X2_distancesAgree_l2s G) (f_X2_distancesAgree_l2e G) n2 (k2 + 1) q_) z2 := by rw [hz2, hz]; rfl
      have J20 : ∀ (n20 k20 : Nat) (Rr_20 : GR) (H : Heap) (locs : List Loc) (ls : Array Slot), k20 + n20 = 8 → z2 = f_X2_distancesAgree_l20  n20 k20 Rr_20 → va_P D vwCl (grcells C g (a 0) Rr_20 ++ gcells C a G) H → va_D A (grcells C g (a 0) Rr_20 ++ gcells C a G) → va_S A s.heap H locs → lv_has ls 3 [(0, .ref (g 0)), (1, .int (nI k2)), (2, .int (nI k20))] → W p l e ({ frames := 4, cells := 0, slots := 0, locals := 90 } : Room) s m ([.ref (g 0)] : List Value).toArray below meth c H locs 0 0 (MQ below (rwO (some (.int (bI z.1))) D (grcells C g (a 0) z.2 ++ gcells C a G) A) ([.ref (g 0)] : List Value).toArray s 0 0 A) (F0 m 20 ls []) := by
        intro n20
        induction n20 with
        | zero =>
          intro k20 Rr_20 H locs ls hk20 hz  hP hD hS hl
          have hz : z2 = f_X2_distancesAgree_l20x  Rr_20 := hz
          refine lv_iload_n hx hb dX2_distancesAgree_20 rfl (lv_at hl 2 rfl) ?_
          refine lv_bipush (v := 8) hx hb dX2_distancesAgree_21 (by decide) ?_
          refine lv_icmp_ge (tgt := 49) hx hb dX2_distancesAgree_23 (by decide) (fun c_23 => ?_) (fun c_23 => absurd (by have e : (8 : Int32) = nI 8 := (by decide); rw [e]; exact nI_le (by omega) (by omega)) c_23)
          refine lv_iinc (v := (nI (k2 + 1))) (lv' := [(1, .int (nI (k2 + 1))), (0, .ref (g 0)), (2, .int (nI k20))]) hx hb dX2_distancesAgree_49 hl (k := 1) rfl (by exact nI_1 _) (by decide) rfl (fun ls hl => ?_)
          refine lv_goto (tgt := 2) hx hb dX2_distancesAgree_52 (by decide) ?_
          exact ih2 (k2 + 1) (Rr_20) _ _ ls (by omega) (by rw [hq2, hz]; rfl)  hP hD hS (lv_sub hl [1, 0] rfl)
        | succ n20 ih20 =>
          intro k20 Rr_20 H locs ls hk20 hz20  hP hD hS hl
          obtain ⟨z20, hz⟩ : ∃ zz_, zz_ = f_X2_distancesAgree_l20b  k20 Rr_20 := ⟨_, rfl⟩
          have hq20 : z2 = sE id (fun q_ => lpF (f_X2_distancesAgree_l20s ) (f_X2_distancesAgree_l20e ) n20 (k20 + 1) q_) z20 := by rw [hz20, hz]; rfl
          refine lv_iload_n hx hb dX2_distancesAgree_20 rfl (lv_at hl 2 rfl) ?_
          refine lv_bipush (v := 8) hx hb dX2_distancesAgree_21 (by decide) ?_
          refine lv_icmp_ge (tgt := 49) hx hb dX2_distancesAgree_23 (by decide) (fun c_23 => absurd c_23 (by have e : (8 : Int32) = nI 8 := (by decide); rw [e]; exact nI_ge (by omega) (by omega))) (fun c_23 => ?_)
          refine lv_aload_n hx hb dX2_distancesAgree_26 rfl (lv_at hl 0 rfl) ?_
          refine va_get (D := D) (ci := 5) (v := .ref (g 1)) (C := RX2) (T := TX2) (N := 4) hx hb hts hinX2 hown hK hP 0 rfl rfl 1 (by decide) (hts (.fieldLink RX2 9 "BridgeAuction$Graph" "nearest" "[I") (by decide +kernel)) (fun _ h9 => h9) rfl dX2_distancesAgree_27 ?_
          refine lv_iload_n hx hb dX2_distancesAgree_30 rfl (lv_at hl 2 rfl) ?_
          refine ialdN (tys := tyA C) hx hb hK hP 1 0 rfl rfl (i := k20) (by omega) (by decide) dX2_distancesAgree_31 ?_
          refine lv_aload_n hx hb dX2_distancesAgree_32 rfl (lv_at hl 0 rfl) ?_
          refine va_get (D := D) (ci := 5) (v := .ref (g 2)) (C := RX2) (T := TX2) (N := 4) hx hb hts hinX2 hown hK hP 0 rfl rfl 2 (by decide) (hts (.fieldLink RX2 15 "BridgeAuction$Graph" "relaxed" "[I") (by decide +kernel)) (fun _ h9 => h9) rfl dX2_distancesAgree_33 ?_
          refine lv_iload_n hx hb dX2_distancesAgree_36 rfl (lv_at hl 2 rfl) ?_
          refine ialdN (tys := tyA C) hx hb hK hP 2 0 rfl rfl (i := k20) (by omega) (by decide) dX2_distancesAgree_37 ?_
          refine lv_icmp_eq (tgt := 43) hx hb dX2_distancesAgree_38 (by decide) (fun c_38 => ?_) (fun c_38 => ?_)
          · have hz := hz.trans (if_pos c_38)
            refine lv_iinc (v := (nI (k20 + 1))) (lv' := [(2, .int (nI (k20 + 1))), (0, .ref (g 0)), (1, .int (nI k2))]) hx hb dX2_distancesAgree_43 hl (k := 2) rfl (by exact nI_1 _) (by decide) rfl (fun ls hl => ?_)
            refine lv_goto (tgt := 20) hx hb dX2_distancesAgree_46 (by decide) ?_
            exact ih20 (k20 + 1) (Rr_20) _ _ ls (by omega) (by rw [hq20, hz]; rfl)  hP hD hS (lv_sub hl [1, 2, 0] rfl)
          · have hz := hz.trans (if_neg c_38)
            refine lv_iconst (v := 0) hx hb dX2_distancesAgree_41 (by decide) ?_
            have hz := up1 hq20 hz
            have hz := up1 hq2 hz
            have hz : z = (false, Rr_20) := hz
            rw [hz]
            exact rw_retB hx hb hr hP hS rfl dX2_distancesAgree_42 hlocks
      refine lv_iload_n hx hb dX2_distancesAgree_2 rfl (lv_at hl 1 rfl) ?_
      refine lv_bipush (v := 8) hx hb dX2_distancesAgree_3 (by decide) ?_
      refine lv_icmp_ge (tgt := 55) hx hb dX2_distancesAgree_5 (by decide) (fun c_5 => absurd c_5 (by have e : (8 : Int32) = nI 8 := (by decide); rw [e]; exact nI_ge (by omega) (by omega))) (fun c_5 => ?_)
      refine lv_aload_n hx hb dX2_distancesAgree_8 rfl (lv_at hl 0 rfl) ?_
      refine lv_iload_n hx hb dX2_distancesAgree_9 rfl (lv_at hl 1 rfl) ?_
      have hFc := va_free (wc := (grcells C g (a 0) Rr_2 ++ gcells C a G)) hD hS hA [0, 1, 2, 3, 4, 5, 6, 7, 8, 9, 10, 11, 12] rfl
      refine callRw (va_runV (As := [.int (nI k2)]) (rest := []) ⟨hx, hb, hml, hown, hts⟩ (c_X2_searchNearest l D C g Rr_2 a G (k2) _ (by assumption) hG (by omega)) (cwV 1 hts gX2_distancesAgree_X2_searchNearest rfl rfl rfl (by decide +kernel) ⟨Nat.le_of_ble_eq_true rfl, Nat.le_of_ble_eq_true rfl⟩) (rwP_v hP hK hE hD (va_recv hK hP (ci := 5) (q0 := 0) rfl rfl)) rfl rfl hl.1 rfl (lv_room (Nat.le_of_ble_eq_true rfl)) dX2_distancesAgree_10 ⟨Nat.le_refl _, Nat.le_refl _⟩) hS hFc (fun H1 locs hPn hk hS => ?_)
      generalize hy10 : (f_X2_searchNearest Rr_2 G (k2)) = y10 at hPn ⊢
      have hz := lt_eq hz hy10.symm
      have hP : va_P D vwCl (grcells C g (a 0) y10 ++ gcells C a G) H1 := hPn
      have hD : va_D A (grcells C g (a 0) y10 ++ gcells C a G) := adr_D hD rfl
      generalize H1 = H at hP hS ⊢
      refine lv_aload_n hx hb dX2_distancesAgree_13 rfl (lv_at hl 0 rfl) ?_
      refine lv_iload_n hx hb dX2_distancesAgree_14 rfl (lv_at hl 1 rfl) ?_
      have hFc := va_free (wc := (grcells C g (a 0) y10 ++ gcells C a G)) hD hS hA [0, 1, 2, 3, 4, 5, 6, 7, 8, 9, 10, 11, 12] rfl
      refine callRw (va_runV (As := [.int (nI k2)]) (rest := []) ⟨hx, hb, hml, hown, hts⟩ (c_X2_relaxFrom l D C g y10 a G (k2) _ (by assumption) hG (by omega)) (cwV 1 hts gX2_distancesAgree_X2_relaxFrom rfl rfl rfl (by decide +kernel) ⟨Nat.le_of_ble_eq_true rfl, Nat.le_of_ble_eq_true rfl⟩) (rwP_v hP hK hE hD (va_recv hK hP (ci := 5) (q0 := 0) rfl rfl)) rfl rfl hl.1 rfl (lv_room (Nat.le_of_ble_eq_true rfl)) dX2_distancesAgree_15 ⟨Nat.le_refl _, Nat.le_refl _⟩) hS hFc (fun H1 locs hPn hk hS => ?_)
      generalize hy15 : (f_X2_relaxFrom y10 G (k2)) = y15 at hPn ⊢
      have hz := lt_eq hz hy15.symm
      have hP : va_P D vwCl (grcells C g (a 0) y15 ++ gcells C a G) H1 := hPn
      have hD : va_D A (grcells C g (a 0) y15 ++ gcells C a G) := adr_D hD rfl
      generalize H1 = H at hP hS ⊢
      refine lv_iconst (v := 0) hx hb dX2_distancesAgree_18 (by decide) ?_
      refine lv_istore_n (lv' := [(2, .int 0), (0, .ref (g 0)), (1, .int (nI k2))]) hx hb dX2_distancesAgree_19 rfl hl (by decide) rfl (fun ls hl => ?_)
      exact J20 (8) 0 (y15) _ _ ls (by omega) hz  hP hD hS (lv_sub hl [1, 2, 0] rfl)
  refine lv_iconst (v := 0) hx hb dX2_distancesAgree_0 (by decide) ?_
  refine lv_istore_n (lv' := [(1, .int 0), (0, .ref (g 0))]) hx hb dX2_distancesAgree_1 rfl hl (by decide) rfl (fun ls hl => ?_)
  exact J2 (8) 0 (Rr) _ _ ls (by omega) hz  hP hD hS (lv_sub hl [1, 0] rfl)

def f_X2_separateAll_l2b (Rr : GR) (k2 : Nat) (par0_2 : (Nat → Nat)) : Sum (GR) ((Nat → Nat)) := (Sum.inr (updN par0_2 k2 k2))
def f_X2_separateAll_l2x (Rr : GR) (par0_2 : (Nat → Nat)) : GR := (mkR (rNear Rr) (rRlx Rr) par0_2)
def f_X2_separateAll_l2s (Rr : GR) (k2 : Nat) (q_ : (Nat → Nat)) : Sum (GR) ((Nat → Nat)) := f_X2_separateAll_l2b Rr k2 (q_)
def f_X2_separateAll_l2e (Rr : GR) (q_ : (Nat → Nat)) : GR := f_X2_separateAll_l2x Rr (q_)
def f_X2_separateAll_l2 (Rr : GR) (n2 k2 : Nat) (par0_2 : (Nat → Nat)) : GR := lpF (f_X2_separateAll_l2s Rr) (f_X2_separateAll_l2e Rr) n2 k2 par0_2
def f_X2_separateAll (Rr : GR) : GR := (f_X2_separateAll_l2 Rr (8) 0 ((rPar Rr)))
set_option maxHeartbeats 4000000 in
set_option maxRecDepth 100000 in
theorem c_X2_separateAll (l : Launch) (D : va_G) (C : Nat → ClassId) (g : Nat → Nat) (Rr : GR) (sz : Nat) : Met l yX2_separateAll wsX2_separateAll ({ frames := 0, cells := 0, slots := 0, locals := 0 } : Room) (rwP [.ref (g 0)] D C (grcells C g (a 0) Rr) sz) (rwO none D (grcells C g (a 0) ((f_X2_separateAll Rr))) (va_A (grcells C g (a 0) Rr) sz)) 0 0 (va_A (grcells C g (a 0) Rr) sz) := by
  refine Met.ofW (cc := cX2_separateAll) (maxL := 2) (ret := none) (by decide) rfl ?_
  intro p e s m args below meth c s₁ B hml hv
  obtain ⟨rfl, hsz, hP, hK, hD0, hE⟩ := hv
  have hx := B.exec
  have hb := B.bytes
  have hr := B.returns
  have hts := atoms_spec (ws := wsX2_separateAll) B.pre
  have hown : s.vm.findClass RX2 = some m.cls := findClass_of_methodNamed B.named
  have hlocks := B.notSynchronized
  subst hsz
  have hD := hD0.self (sz := s.heap.size)
  generalize hAe : va_A (grcells C g (a 0) Rr) s.heap.size = A at hD ⊢
  have hA : ∀ q : Nat, s.heap.size ≤ q → A q := fun q h => by rw [← hAe]; exact Or.inr h
  have hS0 : va_S A s.heap s.heap [] := va_S.rf
  have hP : va_P D vwCl (grcells C g (a 0) Rr) s.heap := hP
  have hS := hS0
  have hinX2 : ∀ w ∈ u_ws RX2 TX2 4, w ∈ wsX2_separateAll := by decide +kernel
  have hl := lv_entry ([.ref (g 0)]) (n := 2) (Nat.le_of_ble_eq_true rfl)
  rw [lg_entry_eq]
  generalize (lg_sl ([.ref (g 0)]) ++ List.replicate (2 - (lg_sl ([.ref (g 0)])).length) Slot.unset).toArray = ls at hl ⊢
  have hl : lv_has ls 2 [(0, .ref (g 0))] := hl
  obtain ⟨z, hz⟩ : ∃ z, z = f_X2_separateAll Rr := ⟨_, rfl⟩
  rw [← hz]
  have J2 : ∀ (n2 k2 : Nat) (par0_2 : (Nat → Nat)) (H : Heap) (locs : List Loc) (ls : Array Slot), k2 + n2 = 8 → z = f_X2_separateAll_l2 Rr n2 k2 par0_2 → va_P D vwCl (grcells C g (a 0) (mkR (rNear Rr) (rRlx Rr) par0_2)) H → va_D A (grcells C g (a 0) (mkR (rNear Rr) (rRlx Rr) par0_2)) → va_S A s.heap H locs → lv_has ls 2 [(0, .ref (g 0)), (1, .int (nI k2))] → W p l e ({ frames := 0, cells := 0, slots := 0, locals := 0 } : Room) s m ([.ref (g 0)] : List Value).toArray below meth c H locs 0 0 (MQ below (rwO none D (grcells C g (a 0) z) A) ([.ref (g 0)] : List Value).toArray s 0 0 A) (F0 m 2 ls []) := by
    intro n2
    induction n2 with
    | zero =>
      intro k2 par0_2 H locs ls hk2 hz  hP hD hS hl
      have hz : z = f_X2_separateAll_l2x Rr par0_2 := hz
      refine lv_iload_n hx hb dX2_separateAll_2 rfl (lv_at hl 1 rfl) ?_
      refine lv_bipush (v := 8) hx hb dX2_separateAll_3 (by decide) ?_
      refine lv_icmp_ge (tgt := 21) hx hb dX2_separateAll_5 (by decide) (fun c_5 => ?_) (fun c_5 => absurd (by have e : (8 : Int32) = nI 8 := (by decide); rw [e]; exact nI_le (by omega) (by omega)) c_5)
      have hz : z = (mkR (rNear Rr) (rRlx Rr) par0_2) := hz
      rw [hz]
      exact rw_retV hx hb hr hP hS dX2_separateAll_21 hlocks
    | succ n2 ih2 =>
      intro k2 par0_2 H locs ls hk2 hz2  hP hD hS hl
      obtain ⟨z2, hz⟩ : ∃ zz_, zz_ = f_X2_separateAll_l2b Rr k2 par0_2 := ⟨_, rfl⟩
      have hq2 : z = sE id (fun q_ => lpF (f_X2_separateAll_l2s Rr) (f_X2_separateAll_l2e Rr) n2 (k2 + 1) q_) z2 := by rw [hz2, hz]; rfl
      refine lv_iload_n hx hb dX2_separateAll_2 rfl (lv_at hl 1 rfl) ?_
      refine lv_bipush (v := 8) hx hb dX2_separateAll_3 (by decide) ?_
      refine lv_icmp_ge (tgt := 21) hx hb dX2_separateAll_5 (by decide) (fun c_5 => absurd c_5 (by have e : (8 : Int32) = nI 8 := (by decide); rw [e]; exact nI_ge (by omega) (by omega))) (fun c_5 => ?_)
      refine lv_aload_n hx hb dX2_separateAll_8 rfl (lv_at hl 0 rfl) ?_
      refine va_get (D := D) (ci := 5) (v := .ref (g 3)) (C := RX2) (T := TX2) (N := 4) hx hb hts hinX2 hown hK hP 0 rfl rfl 3 (by decide) (hts (.fieldLink RX2 18 "BridgeAuction$Graph" "parents" "[I") (by decide +kernel)) (fun _ h9 => h9) rfl dX2_separateAll_9 ?_
      refine lv_iload_n hx hb dX2_separateAll_12 rfl (lv_at hl 1 rfl) ?_
      refine lv_iload_n hx hb dX2_separateAll_13 rfl (lv_at hl 1 rfl) ?_
      refine iastNN (tys := tyA C) hx hb hK hP hD hS 3 0 rfl rfl (i := k2) (by omega) (by decide) dX2_separateAll_14 (fun H locs hP hD hS => ?_)
      have hP : va_P D vwCl (grcells C g (a 0) (mkR (rNear Rr) (rRlx Rr) (updN par0_2 k2 k2))) H := hP
      have hD : va_D A (grcells C g (a 0) (mkR (rNear Rr) (rRlx Rr) (updN par0_2 k2 k2))) := hD
      refine lv_iinc (v := (nI (k2 + 1))) (lv' := [(1, .int (nI (k2 + 1))), (0, .ref (g 0))]) hx hb dX2_separateAll_15 hl (k := 1) rfl (by exact nI_1 _) (by decide) rfl (fun ls hl => ?_)
      refine lv_goto (tgt := 2) hx hb dX2_separateAll_18 (by decide) ?_
      exact ih2 (k2 + 1) ((updN par0_2 k2 k2)) _ _ ls (by omega) (by rw [hq2, hz]; rfl)  hP hD hS (lv_sub hl [1, 0] rfl)
  refine lv_iconst (v := 0) hx hb dX2_separateAll_0 (by decide) ?_
  refine lv_istore_n (lv' := [(1, .int 0), (0, .ref (g 0))]) hx hb dX2_separateAll_1 rfl hl (by decide) rfl (fun ls hl => ?_)
  exact J2 (8) 0 ((rPar Rr)) _ _ ls (by omega) hz  hP hD hS (lv_sub hl [1, 0] rfl)

theorem separateAll_safe (R : GR) : RSafe (f_X2_separateAll R) := sorry
def f_X2_rootOf_j33  (v2_33 : Nat) : Nat := v2_33
def f_X2_rootOf_l4b (Rr : GR) (k4 : Nat) (v2_4 : Nat) : Sum (Nat) (Nat) := (if (nI ((rPar Rr) v2_4)) = (nI v2_4) then (Sum.inl (f_X2_rootOf_j33 (v2_4))) else (Sum.inr ((rPar Rr) v2_4)))
def f_X2_rootOf_l4x (Rr : GR) (v2_4 : Nat) : Nat := (f_X2_rootOf_j33 (v2_4))
def f_X2_rootOf_l4s (Rr : GR) (k4 : Nat) (q_ : Nat) : Sum (Nat) (Nat) := f_X2_rootOf_l4b Rr k4 (q_)
def f_X2_rootOf_l4e (Rr : GR) (q_ : Nat) : Nat := f_X2_rootOf_l4x Rr (q_)
def f_X2_rootOf_l4 (Rr : GR) (n4 k4 : Nat) (v2_4 : Nat) : Nat := lpF (f_X2_rootOf_l4s Rr) (f_X2_rootOf_l4e Rr) n4 k4 v2_4
def f_X2_rootOf (Rr : GR) (i : Nat) : Nat := (f_X2_rootOf_l4 Rr (8) 0 (i))
set_option maxHeartbeats 4000000 in
set_option maxRecDepth 100000 in
theorem c_X2_rootOf (l : Launch) (D : va_G) (C : Nat → ClassId) (g : Nat → Nat) (Rr : GR) (i : Nat) (hR : RSafe Rr) (h_i : i < 8) : Met l yX2_rootOf wsX2_rootOf ({ frames := 0, cells := 0, slots := 0, locals := 0 } : Room) (roP [.ref (g 0), .int (nI i)] D C (grcells C g (a 0) Rr)) (roO (some (.int (nI (f_X2_rootOf Rr i))))) 0 0 (fun _ => False) := by
  refine Met.ofW (cc := cX2_rootOf) (maxL := 4) (ret := (some .int)) (by decide) rfl ?_
  intro p e s m args below meth c s₁ B hml hv
  obtain ⟨rfl, hP, hK, hE⟩ := hv
  have hx := B.exec
  have hb := B.bytes
  have hr := B.returns
  have hts := atoms_spec (ws := wsX2_rootOf) B.pre
  have hown : s.vm.findClass RX2 = some m.cls := findClass_of_methodNamed B.named
  have hlocks := B.notSynchronized
  obtain hpar := id hR
  have hinX2 : ∀ w ∈ u_ws RX2 TX2 4, w ∈ wsX2_rootOf := by decide +kernel
  have hl := lv_entry ([.ref (g 0), .int (nI i)]) (n := 4) (Nat.le_of_ble_eq_true rfl)
  rw [lg_entry_eq]
  generalize (lg_sl ([.ref (g 0), .int (nI i)]) ++ List.replicate (4 - (lg_sl ([.ref (g 0), .int (nI i)])).length) Slot.unset).toArray = ls at hl ⊢
  have hl : lv_has ls 4 [(0, .ref (g 0)), (1, .int (nI i))] := hl
  obtain ⟨z, hz⟩ : ∃ z, z = f_X2_rootOf Rr i := ⟨_, rfl⟩
  rw [← hz]
  have J33 : ∀ (v2_33 : Nat)  (ls : Array Slot), z = f_X2_rootOf_j33 v2_33 → lv_has ls 4 [(2, .int (nI v2_33))] → W p l e ({ frames := 0, cells := 0, slots := 0, locals := 0 } : Room) s m ([.ref (g 0), .int (nI i)] : List Value).toArray below meth c s.heap [] 0 0 (MQ below (roO (some (.int (nI z)))) ([.ref (g 0), .int (nI i)] : List Value).toArray s 0 0 (fun _ => False)) (F0 m 33 ls []) := by
    intro v2_33 ls hz  hl
    refine lv_iload_n hx hb dX2_rootOf_33 rfl (lv_at hl 0 rfl) ?_
    exact ro_ret hx hb hr (congrArg nI (show _ = v2_33 from hz)) dX2_rootOf_34 hlocks
  have J4 : ∀ (n4 k4 : Nat) (v2_4 : Nat) (ls : Array Slot), k4 + n4 = 8 → z = f_X2_rootOf_l4 Rr n4 k4 v2_4 → v2_4 < 8 → lv_has ls 4 [(0, .ref (g 0)), (2, .int (nI v2_4)), (3, .int (nI k4))] → W p l e ({ frames := 0, cells := 0, slots := 0, locals := 0 } : Room) s m ([.ref (g 0), .int (nI i)] : List Value).toArray below meth c s.heap [] 0 0 (MQ below (roO (some (.int (nI z)))) ([.ref (g 0), .int (nI i)] : List Value).toArray s 0 0 (fun _ => False)) (F0 m 4 ls []) := by
    intro n4
    induction n4 with
    | zero =>
      intro k4 v2_4 ls hk4 hz iv4_0 hl
      have hz : z = f_X2_rootOf_l4x Rr v2_4 := hz
      refine lv_iload_n hx hb dX2_rootOf_4 rfl (lv_at hl 2 rfl) ?_
      refine lv_bipush (v := 8) hx hb dX2_rootOf_5 (by decide) ?_
      refine lv_icmp_ge (tgt := 33) hx hb dX2_rootOf_7 (by decide) (fun c_7 => ?_) (fun c_7 => absurd (by have e : (8 : Int32) = nI 8 := (by decide); rw [e]; exact nI_le (by omega) (by omega)) c_7)
      exact J33 (v2_4) ls hz  (lv_sub hl [1] rfl)
    | succ n4 ih4 =>
      intro k4 v2_4 ls hk4 hz4 iv4_0 hl
      obtain ⟨z4, hz⟩ : ∃ zz_, zz_ = f_X2_rootOf_l4b Rr k4 v2_4 := ⟨_, rfl⟩
      have hq4 : z = sE id (fun q_ => lpF (f_X2_rootOf_l4s Rr) (f_X2_rootOf_l4e Rr) n4 (k4 + 1) q_) z4 := by rw [hz4, hz]; rfl
      refine lv_iload_n hx hb dX2_rootOf_4 rfl (lv_at hl 2 rfl) ?_
      refine lv_bipush (v := 8) hx hb dX2_rootOf_5 (by decide) ?_
      refine lv_icmp_ge (tgt := 33) hx hb dX2_rootOf_7 (by decide) (fun c_7 => absurd c_7 (by have e : (8 : Int32) = nI 8 := (by decide); rw [e]; exact nI_ge (by omega) (by omega))) (fun c_7 => ?_)
      refine lv_aload_n hx hb dX2_rootOf_10 rfl (lv_at hl 0 rfl) ?_
      refine va_get (D := D) (ci := 5) (v := .ref (g 3)) (C := RX2) (T := TX2) (N := 4) hx hb hts hinX2 hown hK hP 0 rfl rfl 3 (by decide) (hts (.fieldLink RX2 18 "BridgeAuction$Graph" "parents" "[I") (by decide +kernel)) (fun _ h9 => h9) rfl dX2_rootOf_11 ?_
      refine lv_iload_n hx hb dX2_rootOf_14 rfl (lv_at hl 1 rfl) ?_
      refine ialdN (tys := tyA C) hx hb hK hP 3 0 rfl rfl (i := v2_4) (by omega) (by decide) dX2_rootOf_15 ?_
      have hb_1 := hpar (v2_4)
      refine lv_iload_n hx hb dX2_rootOf_16 rfl (lv_at hl 1 rfl) ?_
      refine lv_icmp_eq (tgt := 33) hx hb dX2_rootOf_17 (by decide) (fun c_17 => ?_) (fun c_17 => ?_)
      · have hz := hz.trans (if_pos c_17)
        have hz := up1 hq4 hz
        exact J33 (v2_4) ls hz  (lv_sub hl [1] rfl)
      · have hz := hz.trans (if_neg c_17)
        refine lv_aload_n hx hb dX2_rootOf_20 rfl (lv_at hl 0 rfl) ?_
        refine va_get (D := D) (ci := 5) (v := .ref (g 3)) (C := RX2) (T := TX2) (N := 4) hx hb hts hinX2 hown hK hP 0 rfl rfl 3 (by decide) (hts (.fieldLink RX2 18 "BridgeAuction$Graph" "parents" "[I") (by decide +kernel)) (fun _ h9 => h9) rfl dX2_rootOf_21 ?_
        refine lv_iload_n hx hb dX2_rootOf_24 rfl (lv_at hl 1 rfl) ?_
        refine ialdN (tys := tyA C) hx hb hK hP 3 0 rfl rfl (i := v2_4) (by omega) (by decide) dX2_rootOf_25 ?_
        have hb_2 := hpar (v2_4)
        refine lv_istore_n (lv' := [(2, .int (nI ((rPar Rr) v2_4))), (0, .ref (g 0)), (3, .int (nI k4))]) hx hb dX2_rootOf_26 rfl hl (by decide) rfl (fun ls hl => ?_)
        refine lv_iinc (v := (nI (k4 + 1))) (lv' := [(3, .int (nI (k4 + 1))), (2, .int (nI ((rPar Rr) v2_4))), (0, .ref (g 0))]) hx hb dX2_rootOf_27 hl (k := 2) rfl (by exact nI_1 _) (by decide) rfl (fun ls hl => ?_)
        refine lv_goto (tgt := 4) hx hb dX2_rootOf_30 (by decide) ?_
        exact ih4 (k4 + 1) (((rPar Rr) v2_4)) ls (by omega) (by rw [hq4, hz]; rfl) (by omega) (lv_sub hl [2, 1, 0] rfl)
  refine lv_iload_n hx hb dX2_rootOf_0 rfl (lv_at hl 1 rfl) ?_
  refine lv_istore_n (lv' := [(2, .int (nI i)), (0, .ref (g 0)), (1, .int (nI i))]) hx hb dX2_rootOf_1 rfl hl (by decide) rfl (fun ls hl => ?_)
  refine lv_iconst (v := 0) hx hb dX2_rootOf_2 (by decide) ?_
  refine lv_istore_n (lv' := [(3, .int 0), (2, .int (nI i)), (0, .ref (g 0)), (1, .int (nI i))]) hx hb dX2_rootOf_3 rfl hl (by decide) rfl (fun ls hl => ?_)
  exact J4 (8) 0 (i) ls (by omega) hz (by omega) (lv_sub hl [2, 1, 0] rfl)

theorem rootOf_lt {R : GR} (hR : RSafe R) {i : Nat} (hi : i < 8) : f_X2_rootOf R i < 8 := by sorry
def f_X2_joinEnds_j45 (Rr : GR) (s0_45 : Bool) (par0_45 : (Nat → Nat)) : Bool × GR := (s0_45, (mkR (rNear Rr) (rRlx Rr) par0_45))
def f_X2_joinEnds (Rr : GR) (G : GS) (k : Nat) : Bool × GR := (if (nI (f_X2_rootOf Rr (((gLo G) k)))) = (nI (f_X2_rootOf Rr (((gHi G) k)))) then (f_X2_joinEnds_j45 Rr (false) ((updN (rPar Rr) (f_X2_rootOf Rr (((gLo G) k))) (f_X2_rootOf Rr (((gHi G) k)))))) else (f_X2_joinEnds_j45 Rr (true) ((updN (rPar Rr) (f_X2_rootOf Rr (((gLo G) k))) (f_X2_rootOf Rr (((gHi G) k)))))))
set_option maxHeartbeats 4000000 in
set_option maxRecDepth 100000 in
theorem c_X2_joinEnds (l : Launch) (D : va_G) (C : Nat → ClassId) (g : Nat → Nat) (Rr : GR) (a : Nat → Nat) (G : GS) (k : Nat) (sz : Nat) (hR : RSafe Rr) (hG : GSafe G) (h_k : k < 12) : Met l yX2_joinEnds wsX2_joinEnds ({ frames := 1, cells := 0, slots := 0, locals := 23 } : Room) (rwP [.ref (g 0), .int (nI k)] D C (grcells C g (a 0) Rr ++ gcells C a G) sz) (rwO (some (.int (bI (f_X2_joinEnds Rr G k).1))) D (grcells C g (a 0) ((f_X2_joinEnds Rr G k).2) ++ gcells C a G) (va_A (grcells C g (a 0) Rr ++ gcells C a G) sz)) 0 0 (va_A (grcells C g (a 0) Rr ++ gcells C a G) sz) := by
  refine Met.ofW (cc := cX2_joinEnds) (maxL := 4) (ret := (some .boolean)) (by decide) rfl ?_
  intro p e s m args below meth c s₁ B hml hv
  obtain ⟨rfl, hsz, hP, hK, hD0, hE⟩ := hv
  have hx := B.exec
  have hb := B.bytes
  have hr := B.returns
  have hts := atoms_spec (ws := wsX2_joinEnds) B.pre
  have hown : s.vm.findClass RX2 = some m.cls := findClass_of_methodNamed B.named
  have hlocks := B.notSynchronized
  subst hsz
  have hD := hD0.self (sz := s.heap.size)
  generalize hAe : va_A (grcells C g (a 0) Rr ++ gcells C a G) s.heap.size = A at hD ⊢
  have hA : ∀ q : Nat, s.heap.size ≤ q → A q := fun q h => by rw [← hAe]; exact Or.inr h
  have hS0 : va_S A s.heap s.heap [] := va_S.rf
  have hP : va_P D vwCl (grcells C g (a 0) Rr ++ gcells C a G) s.heap := hP
  have hS := hS0
  obtain hpar := id hR
  obtain ⟨hS12, hP4, hlo, hhi⟩ := id hG
  have hinX1 : ∀ w ∈ u_ws RX1 TX1 16, w ∈ wsX2_joinEnds := by decide +kernel
  have hinX2 : ∀ w ∈ u_ws RX2 TX2 4, w ∈ wsX2_joinEnds := by decide +kernel
  have hl := lv_entry ([.ref (g 0), .int (nI k)]) (n := 4) (Nat.le_of_ble_eq_true rfl)
  rw [lg_entry_eq]
  generalize (lg_sl ([.ref (g 0), .int (nI k)]) ++ List.replicate (4 - (lg_sl ([.ref (g 0), .int (nI k)])).length) Slot.unset).toArray = ls at hl ⊢
  have hl : lv_has ls 4 [(0, .ref (g 0)), (1, .int (nI k))] := hl
  obtain ⟨z, hz⟩ : ∃ z, z = f_X2_joinEnds Rr G k := ⟨_, rfl⟩
  rw [← hz]
  have J45 : ∀ (s0_45 : Bool) (par0_45 : (Nat → Nat))  (H : Heap) (locs : List Loc) (ls : Array Slot), z = f_X2_joinEnds_j45 Rr s0_45 par0_45 → va_P D vwCl (grcells C g (a 0) (mkR (rNear Rr) (rRlx Rr) par0_45) ++ gcells C a G) H → va_D A (grcells C g (a 0) (mkR (rNear Rr) (rRlx Rr) par0_45) ++ gcells C a G) → va_S A s.heap H locs → lv_has ls 4 [] → W p l e ({ frames := 1, cells := 0, slots := 0, locals := 23 } : Room) s m ([.ref (g 0), .int (nI k)] : List Value).toArray below meth c H locs 0 0 (MQ below (rwO (some (.int (bI z.1))) D (grcells C g (a 0) z.2 ++ gcells C a G) A) ([.ref (g 0), .int (nI k)] : List Value).toArray s 0 0 A) (F0 m 45 ls [.int (bI s0_45)]) := by
    intro s0_45 par0_45 H locs ls hz  hP hD hS hl
    have hz : z = (s0_45, (mkR (rNear Rr) (rRlx Rr) par0_45)) := hz
    rw [hz]
    exact rw_retB hx hb hr hP hS rfl dX2_joinEnds_45 hlocks
  refine lv_aload_n hx hb dX2_joinEnds_0 rfl (lv_at hl 0 rfl) ?_
  refine lv_aload_n hx hb dX2_joinEnds_1 rfl (lv_at hl 0 rfl) ?_
  refine va_get (D := D) (ci := 5) (v := .ref (a 0)) (C := RX2) (T := TX2) (N := 4) hx hb hts hinX2 hown hK hP 0 rfl rfl 0 (by decide) (hts (.fieldLink RX2 21 "BridgeAuction$Graph" "game" "LBridgeAuction$Game;") (by decide +kernel)) (fun _ h9 => h9) rfl dX2_joinEnds_2 ?_
  refine va_getN (D := D) (ci := 4) (v := .ref (a 3)) (C := RX1) (T := TX1) (N := 16) hx hb hts hinX1 hown hK hP 4 rfl rfl 6 (by decide) (hE.use 6 rfl) (fun _ h9 => h9) rfl dX2_joinEnds_5 ?_
  refine lv_iload_n hx hb dX2_joinEnds_8 rfl (lv_at hl 1 rfl) ?_
  refine ialdN (tys := tyA C) hx hb hK hP 7 0 rfl rfl (i := k) (by omega) (by decide) dX2_joinEnds_9 ?_
  have hb_1 := hlo (k)
  refine callRo (va_runV (As := [.int (nI ((gLo G) k))]) (rest := []) ⟨hx, hb, hml, hown, hts⟩ (c_X2_rootOf l D C g Rr (((gLo G) k)) hR (by omega)) (cwV 1 hts gX2_joinEnds_X2_rootOf rfl rfl rfl (by decide +kernel) ⟨Nat.le_of_ble_eq_true rfl, Nat.le_of_ble_eq_true rfl⟩) (roP_v (hP.sub (ws' := (grcells C g (a 0) Rr)) [0, 1, 2, 3] rfl) hK hE (va_recv hK (hP.sub (ws' := (grcells C g (a 0) Rr)) [0, 1, 2, 3] rfl) (ci := 5) (q0 := 0) rfl rfl)) rfl rfl hl.1 rfl (lv_room (Nat.le_of_ble_eq_true rfl)) dX2_joinEnds_10 ⟨Nat.le_refl _, Nat.le_refl _⟩) ?_
  have hr1 := rootOf_lt hR (hlo k)
  refine lv_istore_n (lv' := [(2, .int (nI (f_X2_rootOf Rr (((gLo G) k))))), (0, .ref (g 0)), (1, .int (nI k))]) hx hb dX2_joinEnds_13 rfl hl (by decide) rfl (fun ls hl => ?_)
  refine lv_aload_n hx hb dX2_joinEnds_14 rfl (lv_at hl 1 rfl) ?_
  refine lv_aload_n hx hb dX2_joinEnds_15 rfl (lv_at hl 1 rfl) ?_
  refine va_get (D := D) (ci := 5) (v := .ref (a 0)) (C := RX2) (T := TX2) (N := 4) hx hb hts hinX2 hown hK hP 0 rfl rfl 0 (by decide) (hts (.fieldLink RX2 21 "BridgeAuction$Graph" "game" "LBridgeAuction$Game;") (by decide +kernel)) (fun _ h9 => h9) rfl dX2_joinEnds_16 ?_
  refine va_getN (D := D) (ci := 4) (v := .ref (a 4)) (C := RX1) (T := TX1) (N := 16) hx hb hts hinX1 hown hK hP 4 rfl rfl 7 (by decide) (hE.use 8 rfl) (fun _ h9 => h9) rfl dX2_joinEnds_19 ?_
  refine lv_iload_n hx hb dX2_joinEnds_22 rfl (lv_at hl 2 rfl) ?_
  refine ialdN (tys := tyA C) hx hb hK hP 8 0 rfl rfl (i := k) (by omega) (by decide) dX2_joinEnds_23 ?_
  have hb_2 := hhi (k)
  refine callRo (va_runV (As := [.int (nI ((gHi G) k))]) (rest := []) ⟨hx, hb, hml, hown, hts⟩ (c_X2_rootOf l D C g Rr (((gHi G) k)) hR (by omega)) (cwV 1 hts gX2_joinEnds_X2_rootOf rfl rfl rfl (by decide +kernel) ⟨Nat.le_of_ble_eq_true rfl, Nat.le_of_ble_eq_true rfl⟩) (roP_v (hP.sub (ws' := (grcells C g (a 0) Rr)) [0, 1, 2, 3] rfl) hK hE (va_recv hK (hP.sub (ws' := (grcells C g (a 0) Rr)) [0, 1, 2, 3] rfl) (ci := 5) (q0 := 0) rfl rfl)) rfl rfl hl.1 rfl (lv_room (Nat.le_of_ble_eq_true rfl)) dX2_joinEnds_24 ⟨Nat.le_refl _, Nat.le_refl _⟩) ?_
  have hr2 := rootOf_lt hR (hhi k)
  refine lv_istore_n (lv' := [(3, .int (nI (f_X2_rootOf Rr (((gHi G) k))))), (2, .int (nI (f_X2_rootOf Rr (((gLo G) k))))), (0, .ref (g 0)), (1, .int (nI k))]) hx hb dX2_joinEnds_27 rfl hl (by decide) rfl (fun ls hl => ?_)
  refine lv_aload_n hx hb dX2_joinEnds_28 rfl (lv_at hl 2 rfl) ?_
  refine va_get (D := D) (ci := 5) (v := .ref (g 3)) (C := RX2) (T := TX2) (N := 4) hx hb hts hinX2 hown hK hP 0 rfl rfl 3 (by decide) (hts (.fieldLink RX2 18 "BridgeAuction$Graph" "parents" "[I") (by decide +kernel)) (fun _ h9 => h9) rfl dX2_joinEnds_29 ?_
  refine lv_iload_n hx hb dX2_joinEnds_32 rfl (lv_at hl 1 rfl) ?_
  refine lv_iload_n hx hb dX2_joinEnds_33 rfl (lv_at hl 0 rfl) ?_
  refine iastNN (tys := tyA C) hx hb hK hP hD hS 3 0 rfl rfl (i := (f_X2_rootOf Rr (((gLo G) k)))) (by omega) (by decide) dX2_joinEnds_34 (fun H locs hP hD hS => ?_)
  have hP : va_P D vwCl (grcells C g (a 0) (mkR (rNear Rr) (rRlx Rr) (updN (rPar Rr) (f_X2_rootOf Rr (((gLo G) k))) (f_X2_rootOf Rr (((gHi G) k))))) ++ gcells C a G) H := hP
  have hD : va_D A (grcells C g (a 0) (mkR (rNear Rr) (rRlx Rr) (updN (rPar Rr) (f_X2_rootOf Rr (((gLo G) k))) (f_X2_rootOf Rr (((gHi G) k))))) ++ gcells C a G) := hD
  refine lv_iload_n hx hb dX2_joinEnds_35 rfl (lv_at hl 1 rfl) ?_
  refine lv_iload_n hx hb dX2_joinEnds_36 rfl (lv_at hl 0 rfl) ?_
  refine lv_icmp_eq (tgt := 44) hx hb dX2_joinEnds_37 (by decide) (fun c_37 => ?_) (fun c_37 => ?_)
  · have hz := hz.trans (if_pos c_37)
    refine lv_iconst (v := 0) hx hb dX2_joinEnds_44 (by decide) ?_
    exact J45 (false) ((updN (rPar Rr) (f_X2_rootOf Rr (((gLo G) k))) (f_X2_rootOf Rr (((gHi G) k))))) _ _ ls hz  hP hD hS (lv_sub hl [] rfl)
  · have hz := hz.trans (if_neg c_37)
    refine lv_iconst (v := 1) hx hb dX2_joinEnds_40 (by decide) ?_
    refine lv_goto (tgt := 45) hx hb dX2_joinEnds_41 (by decide) ?_
    exact J45 (true) ((updN (rPar Rr) (f_X2_rootOf Rr (((gLo G) k))) (f_X2_rootOf Rr (((gHi G) k))))) _ _ ls hz  hP hD hS (lv_sub hl [] rfl)

theorem joinEnds_safe {R : GR} {G : GS} (hR : RSafe R) (hG : GSafe G) (k : Nat) : RSafe (f_X2_joinEnds R G k).2 := by sorry
def f_X2_countByJoining_j42  (v1_42 : Int32) (Rr_42 : GR) : Sum (Int32 × GR) (Int32 × GR) := (Sum.inr (v1_42, Rr_42))
def f_X2_countByJoining_l9b (G : GS) (k9 : Nat) (v1_9 : Int32) (Rr_9 : GR) : Sum (Int32 × GR) (Int32 × GR) := (if (f_X1_hasBridge G (k9)) = true then (lt_ (f_X2_joinEnds Rr_9 G (k9)) (fun y33 => (if y33.1 = true then (f_X2_countByJoining_j42 ((v1_9 + (-1))) (y33.2)) else (f_X2_countByJoining_j42 (v1_9) (y33.2))))) else (f_X2_countByJoining_j42 (v1_9) (Rr_9)))
def f_X2_countByJoining_l9x (G : GS) (v1_9 : Int32) (Rr_9 : GR) : Int32 × GR := (v1_9, Rr_9)
def f_X2_countByJoining_l9s (G : GS) (k9 : Nat) (q_ : Int32 × GR) : Sum (Int32 × GR) (Int32 × GR) := f_X2_countByJoining_l9b G k9 (q_.1) (q_.2)
def f_X2_countByJoining_l9e (G : GS) (q_ : Int32 × GR) : Int32 × GR := f_X2_countByJoining_l9x G (q_.1) (q_.2)
def f_X2_countByJoining_l9 (G : GS) (n9 k9 : Nat) (v1_9 : Int32) (Rr_9 : GR) : Int32 × GR := lpF (f_X2_countByJoining_l9s G) (f_X2_countByJoining_l9e G) n9 k9 (v1_9, Rr_9)
def f_X2_countByJoining (Rr : GR) (G : GS) : Int32 × GR := (lt_ (f_X2_separateAll Rr) (fun y1 => (f_X2_countByJoining_l9 G (gS G) 0 (8) (y1))))
set_option maxHeartbeats 4000000 in
set_option maxRecDepth 100000 in
theorem c_X2_countByJoining (l : Launch) (D : va_G) (C : Nat → ClassId) (g : Nat → Nat) (Rr : GR) (a : Nat → Nat) (G : GS) (sz : Nat) (hR : RSafe Rr) (hG : GSafe G) : Met l yX2_countByJoining wsX2_countByJoining ({ frames := 2, cells := 0, slots := 0, locals := 46 } : Room) (rwP [.ref (g 0)] D C (grcells C g (a 0) Rr ++ gcells C a G) sz) (rwO (some (.int (f_X2_countByJoining Rr G).1)) D (grcells C g (a 0) ((f_X2_countByJoining Rr G).2) ++ gcells C a G) (va_A (grcells C g (a 0) Rr ++ gcells C a G) sz)) 0 0 (va_A (grcells C g (a 0) Rr ++ gcells C a G) sz) := by
  refine Met.ofW (cc := cX2_countByJoining) (maxL := 3) (ret := (some .int)) (by decide) rfl ?_
  intro p e s m args below meth c s₁ B hml hv
  obtain ⟨rfl, hsz, hP, hK, hD0, hE⟩ := hv
  have hx := B.exec
  have hb := B.bytes
  have hr := B.returns
  have hts := atoms_spec (ws := wsX2_countByJoining) B.pre
  have hown : s.vm.findClass RX2 = some m.cls := findClass_of_methodNamed B.named
  have hlocks := B.notSynchronized
  subst hsz
  have hD := hD0.self (sz := s.heap.size)
  generalize hAe : va_A (grcells C g (a 0) Rr ++ gcells C a G) s.heap.size = A at hD ⊢
  have hA : ∀ q : Nat, s.heap.size ≤ q → A q := fun q h => by rw [← hAe]; exact Or.inr h
  have hS0 : va_S A s.heap s.heap [] := va_S.rf
  have hP : va_P D vwCl (grcells C g (a 0) Rr ++ gcells C a G) s.heap := hP
  have hS := hS0
  obtain hpar := id hR
  obtain ⟨hS12, hP4, hlo, hhi⟩ := id hG
  have hinX1 : ∀ w ∈ u_ws RX1 TX1 16, w ∈ wsX2_countByJoining := by decide +kernel
  have hinX2 : ∀ w ∈ u_ws RX2 TX2 4, w ∈ wsX2_countByJoining := by decide +kernel
  have hl := lv_entry ([.ref (g 0)]) (n := 3) (Nat.le_of_ble_eq_true rfl)
  rw [lg_entry_eq]
  generalize (lg_sl ([.ref (g 0)]) ++ List.replicate (3 - (lg_sl ([.ref (g 0)])).length) Slot.unset).toArray = ls at hl ⊢
  have hl : lv_has ls 3 [(0, .ref (g 0))] := hl
  obtain ⟨z, hz⟩ : ∃ z, z = f_X2_countByJoining Rr G := ⟨_, rfl⟩
  rw [← hz]
  have J9 : ∀ (n9 k9 : Nat) (v1_9 : Int32) (Rr_9 : GR) (H : Heap) (locs : List Loc) (ls : Array Slot), k9 + n9 = gS G → z = f_X2_countByJoining_l9 G n9 k9 v1_9 Rr_9 → RSafe Rr_9 → va_P D vwCl (grcells C g (a 0) Rr_9 ++ gcells C a G) H → va_D A (grcells C g (a 0) Rr_9 ++ gcells C a G) → va_S A s.heap H locs → lv_has ls 3 [(0, .ref (g 0)), (1, .int v1_9), (2, .int (nI k9))] → W p l e ({ frames := 2, cells := 0, slots := 0, locals := 46 } : Room) s m ([.ref (g 0)] : List Value).toArray below meth c H locs 0 0 (MQ below (rwO (some (.int z.1)) D (grcells C g (a 0) z.2 ++ gcells C a G) A) ([.ref (g 0)] : List Value).toArray s 0 0 A) (F0 m 9 ls []) := by
    intro n9
    induction n9 with
    | zero =>
      intro k9 v1_9 Rr_9 H locs ls hk9 hz iv9_0 hP hD hS hl
      have hz : z = f_X2_countByJoining_l9x G v1_9 Rr_9 := hz
      refine lv_iload_n hx hb dX2_countByJoining_9 rfl (lv_at hl 2 rfl) ?_
      refine lv_aload_n hx hb dX2_countByJoining_10 rfl (lv_at hl 0 rfl) ?_
      refine va_get (D := D) (ci := 5) (v := .ref (a 0)) (C := RX2) (T := TX2) (N := 4) hx hb hts hinX2 hown hK hP 0 rfl rfl 0 (by decide) (hts (.fieldLink RX2 21 "BridgeAuction$Graph" "game" "LBridgeAuction$Game;") (by decide +kernel)) (fun _ h9 => h9) rfl dX2_countByJoining_11 ?_
      refine va_getN (D := D) (ci := 4) (v := .int (nI (gS G))) (C := RX1) (T := TX1) (N := 16) hx hb hts hinX1 hown hK hP 4 rfl rfl 5 (by decide) (hE.use 4 rfl) (fun _ h9 => h9) rfl dX2_countByJoining_14 ?_
      refine lv_icmp_ge (tgt := 48) hx hb dX2_countByJoining_17 (by decide) (fun c_17 => ?_) (fun c_17 => absurd (nI_le (by omega) (by omega)) c_17)
      refine lv_iload_n hx hb dX2_countByJoining_48 rfl (lv_at hl 1 rfl) ?_
      have hz : z = (v1_9, Rr_9) := hz
      rw [hz]
      exact rw_ret hx hb hr hP hS rfl dX2_countByJoining_49 hlocks
    | succ n9 ih9 =>
      intro k9 v1_9 Rr_9 H locs ls hk9 hz9 iv9_0 hP hD hS hl
      obtain ⟨z9, hz⟩ : ∃ zz_, zz_ = f_X2_countByJoining_l9b G k9 v1_9 Rr_9 := ⟨_, rfl⟩
      have hq9 : z = sE id (fun q_ => lpF (f_X2_countByJoining_l9s G) (f_X2_countByJoining_l9e G) n9 (k9 + 1) q_) z9 := by rw [hz9, hz]; rfl
      have J42 : ∀ (v1_42 : Int32) (Rr_42 : GR)  (H : Heap) (locs : List Loc) (ls : Array Slot), z9 = f_X2_countByJoining_j42 v1_42 Rr_42 → RSafe Rr_42 → va_P D vwCl (grcells C g (a 0) Rr_42 ++ gcells C a G) H → va_D A (grcells C g (a 0) Rr_42 ++ gcells C a G) → va_S A s.heap H locs → lv_has ls 3 [(0, .ref (g 0)), (1, .int v1_42), (2, .int (nI k9))] → W p l e ({ frames := 2, cells := 0, slots := 0, locals := 46 } : Room) s m ([.ref (g 0)] : List Value).toArray below meth c H locs 0 0 (MQ below (rwO (some (.int z.1)) D (grcells C g (a 0) z.2 ++ gcells C a G) A) ([.ref (g 0)] : List Value).toArray s 0 0 A) (F0 m 42 ls []) := by
        intro v1_42 Rr_42 H locs ls hz iv42_0 hP hD hS hl
        refine lv_iinc (v := (nI (k9 + 1))) (lv' := [(2, .int (nI (k9 + 1))), (0, .ref (g 0)), (1, .int v1_42)]) hx hb dX2_countByJoining_42 hl (k := 2) rfl (by exact nI_1 _) (by decide) rfl (fun ls hl => ?_)
        refine lv_goto (tgt := 9) hx hb dX2_countByJoining_45 (by decide) ?_
        exact ih9 (k9 + 1) (v1_42) (Rr_42) _ _ ls (by omega) (by rw [hq9, hz]; rfl) (by assumption) hP hD hS (lv_sub hl [1, 2, 0] rfl)
      refine lv_iload_n hx hb dX2_countByJoining_9 rfl (lv_at hl 2 rfl) ?_
      refine lv_aload_n hx hb dX2_countByJoining_10 rfl (lv_at hl 0 rfl) ?_
      refine va_get (D := D) (ci := 5) (v := .ref (a 0)) (C := RX2) (T := TX2) (N := 4) hx hb hts hinX2 hown hK hP 0 rfl rfl 0 (by decide) (hts (.fieldLink RX2 21 "BridgeAuction$Graph" "game" "LBridgeAuction$Game;") (by decide +kernel)) (fun _ h9 => h9) rfl dX2_countByJoining_11 ?_
      refine va_getN (D := D) (ci := 4) (v := .int (nI (gS G))) (C := RX1) (T := TX1) (N := 16) hx hb hts hinX1 hown hK hP 4 rfl rfl 5 (by decide) (hE.use 4 rfl) (fun _ h9 => h9) rfl dX2_countByJoining_14 ?_
      refine lv_icmp_ge (tgt := 48) hx hb dX2_countByJoining_17 (by decide) (fun c_17 => absurd c_17 (nI_ge (by omega) (by omega))) (fun c_17 => ?_)
      refine lv_aload_n hx hb dX2_countByJoining_20 rfl (lv_at hl 0 rfl) ?_
      refine va_get (D := D) (ci := 5) (v := .ref (a 0)) (C := RX2) (T := TX2) (N := 4) hx hb hts hinX2 hown hK hP 0 rfl rfl 0 (by decide) (hts (.fieldLink RX2 21 "BridgeAuction$Graph" "game" "LBridgeAuction$Game;") (by decide +kernel)) (fun _ h9 => h9) rfl dX2_countByJoining_21 ?_
      refine lv_iload_n hx hb dX2_countByJoining_24 rfl (lv_at hl 2 rfl) ?_
      refine callRo (va_runV (As := [.int (nI k9)]) (rest := []) ⟨hx, hb, hml, hown, hts⟩ (c_X1_hasBridge l D C a G (k9) hG (by omega)) (cwV 1 hts gX2_countByJoining_X1_hasBridge rfl rfl rfl (by decide +kernel) ⟨Nat.le_of_ble_eq_true rfl, Nat.le_of_ble_eq_true rfl⟩) (roP_v (hP.sub (ws' := (gcells C a G)) [4, 5, 6, 7, 8, 9, 10, 11, 12] rfl) hK hE (va_recv hK (hP.sub (ws' := (gcells C a G)) [4, 5, 6, 7, 8, 9, 10, 11, 12] rfl) (ci := 4) (q0 := 0) rfl rfl)) rfl rfl hl.1 rfl (lv_room (Nat.le_of_ble_eq_true rfl)) dX2_countByJoining_25 ⟨Nat.le_refl _, Nat.le_refl _⟩) ?_
      refine bif_eq (tgt := 42) hx hb dX2_countByJoining_28 (by decide) (fun c_28 => ?_) (fun c_28 => ?_)
      · have hz := hz.trans (ifB_f c_28)
        exact J42 (v1_9) (Rr_9) _ _ ls hz (by assumption) hP hD hS (lv_sub hl [0, 1, 2] rfl)
      · have hz := hz.trans (ifB_t c_28)
        refine lv_aload_n hx hb dX2_countByJoining_31 rfl (lv_at hl 0 rfl) ?_
        refine lv_iload_n hx hb dX2_countByJoining_32 rfl (lv_at hl 2 rfl) ?_
        have hFc := va_free (wc := (grcells C g (a 0) Rr_9 ++ gcells C a G)) hD hS hA [0, 1, 2, 3, 4, 5, 6, 7, 8, 9, 10, 11, 12] rfl
        refine callRw (va_runV (As := [.int (nI k9)]) (rest := []) ⟨hx, hb, hml, hown, hts⟩ (c_X2_joinEnds l D C g Rr_9 a G (k9) _ (by assumption) hG (by omega)) (cwV 1 hts gX2_countByJoining_X2_joinEnds rfl rfl rfl (by decide +kernel) ⟨Nat.le_of_ble_eq_true rfl, Nat.le_of_ble_eq_true rfl⟩) (rwP_v hP hK hE hD (va_recv hK hP (ci := 5) (q0 := 0) rfl rfl)) rfl rfl hl.1 rfl (lv_room (Nat.le_of_ble_eq_true rfl)) dX2_countByJoining_33 ⟨Nat.le_refl _, Nat.le_refl _⟩) hS hFc (fun H1 locs hPn hk hS => ?_)
        generalize hy33 : (f_X2_joinEnds Rr_9 G (k9)) = y33 at hPn ⊢
        have hz := lt_eq hz hy33.symm
        have hP : va_P D vwCl (grcells C g (a 0) y33.2 ++ gcells C a G) H1 := hPn
        have hD : va_D A (grcells C g (a 0) y33.2 ++ gcells C a G) := adr_D hD rfl
        generalize H1 = H at hP hS ⊢
        have hs33 : RSafe y33.2 := by rw [← hy33]; exact joinEnds_safe (by assumption) hG _
        refine bif_eq (tgt := 42) hx hb dX2_countByJoining_36 (by decide) (fun c_36 => ?_) (fun c_36 => ?_)
        · have hz := hz.trans (ifB_f c_36)
          exact J42 (v1_9) (y33.2) _ _ ls hz (by assumption) hP hD hS (lv_sub hl [0, 1, 2] rfl)
        · have hz := hz.trans (ifB_t c_36)
          refine lv_iinc (v := (v1_9 + (-1))) (lv' := [(1, .int (v1_9 + (-1))), (0, .ref (g 0)), (2, .int (nI k9))]) hx hb dX2_countByJoining_39 hl (k := 1) rfl rfl (by decide) rfl (fun ls hl => ?_)
          exact J42 ((v1_9 + (-1))) (y33.2) _ _ ls hz (by assumption) hP hD hS (lv_sub hl [1, 0, 2] rfl)
  refine lv_aload_n hx hb dX2_countByJoining_0 rfl (lv_at hl 0 rfl) ?_
  have hPc := hP.sub (ws' := (grcells C g (a 0) Rr)) [0, 1, 2, 3] rfl
  have hDc := hD.sub (ws' := (grcells C g (a 0) Rr)) [0, 1, 2, 3] (by decide) rfl
  have hFc := va_free (wc := (grcells C g (a 0) Rr)) hD hS hA [0, 1, 2, 3] rfl
  refine callRw (va_runV (As := []) (rest := []) ⟨hx, hb, hml, hown, hts⟩ (c_X2_separateAll l D C g Rr _) (cwV 0 hts gX2_countByJoining_X2_separateAll rfl rfl rfl (by decide +kernel) ⟨Nat.le_of_ble_eq_true rfl, Nat.le_of_ble_eq_true rfl⟩) (rwP_v hPc hK hE hDc (va_recv hK hPc (ci := 5) (q0 := 0) rfl rfl)) rfl rfl hl.1 rfl (lv_room (Nat.le_of_ble_eq_true rfl)) dX2_countByJoining_1 ⟨Nat.le_refl _, Nat.le_refl _⟩) hS hFc (fun H1 locs hPn hk hS => ?_)
  generalize hy1 : (f_X2_separateAll Rr) = y1 at hPn ⊢
  have hz := lt_eq hz hy1.symm
  have hP : va_P D vwCl (grcells C g (a 0) y1 ++ gcells C a G) H1 := rwJoin (wr := (gcells C a G)) (ws' := (grcells C g (a 0) y1 ++ gcells C a G)) hP hD [0, 1, 2, 3] [4, 5, 6, 7, 8, 9, 10, 11, 12] rfl rfl (by decide) (by decide) (by decide) hk hFc hPn rfl [9, 10, 11, 12, 0, 1, 2, 3, 4, 5, 6, 7, 8] rfl
  have hD : va_D A (grcells C g (a 0) y1 ++ gcells C a G) := adr_D hD rfl
  generalize H1 = H at hP hS ⊢
  have hs1 : RSafe y1 := by rw [← hy1]; exact separateAll_safe _
  refine lv_bipush (v := 8) hx hb dX2_countByJoining_4 (by decide) ?_
  refine lv_istore_n (lv' := [(1, .int 8), (0, .ref (g 0))]) hx hb dX2_countByJoining_6 rfl hl (by decide) rfl (fun ls hl => ?_)
  refine lv_iconst (v := 0) hx hb dX2_countByJoining_7 (by decide) ?_
  refine lv_istore_n (lv' := [(2, .int 0), (1, .int 8), (0, .ref (g 0))]) hx hb dX2_countByJoining_8 rfl hl (by decide) rfl (fun ls hl => ?_)
  exact J9 (gS G) 0 (8) (y1) _ _ ls (by omega) hz (by assumption) hP hD hS (lv_sub hl [2, 1, 0] rfl)

def f_X2_kruskalLength_j63  (v1_63 : Int32) (Rr_63 : GR) : Sum (Sum (Int32 × GR) (Int32 × GR)) (Int32 × GR) := (Sum.inr (v1_63, Rr_63))
def f_X2_kruskalLength_l16b (G : GS) (k8 : Nat) (k16 : Nat) (v1_16 : Int32) (Rr_16 : GR) : Sum (Sum (Int32 × GR) (Int32 × GR)) (Int32 × GR) := (if (f_X1_hasBridge G (k16)) = true then (if ((gLen G) k16) = (nI k8) then (lt_ (f_X2_joinEnds Rr_16 G (k16)) (fun y53 => (if y53.1 = true then (f_X2_kruskalLength_j63 ((v1_16 + (nI k8))) (y53.2)) else (f_X2_kruskalLength_j63 (v1_16) (y53.2))))) else (f_X2_kruskalLength_j63 (v1_16) (Rr_16))) else (f_X2_kruskalLength_j63 (v1_16) (Rr_16)))
def f_X2_kruskalLength_l16x (G : GS) (k8 : Nat) (v1_16 : Int32) (Rr_16 : GR) : Sum (Int32 × GR) (Int32 × GR) := (Sum.inr (v1_16, Rr_16))
def f_X2_kruskalLength_l16s (G : GS) (k8 : Nat) (k16 : Nat) (q_ : Int32 × GR) : Sum (Sum (Int32 × GR) (Int32 × GR)) (Int32 × GR) := f_X2_kruskalLength_l16b G k8 k16 (q_.1) (q_.2)
def f_X2_kruskalLength_l16e (G : GS) (k8 : Nat) (q_ : Int32 × GR) : Sum (Int32 × GR) (Int32 × GR) := f_X2_kruskalLength_l16x G k8 (q_.1) (q_.2)
def f_X2_kruskalLength_l16 (G : GS) (k8 : Nat) (n16 k16 : Nat) (v1_16 : Int32) (Rr_16 : GR) : Sum (Int32 × GR) (Int32 × GR) := lpF (f_X2_kruskalLength_l16s G k8) (f_X2_kruskalLength_l16e G k8) n16 k16 (v1_16, Rr_16)
def f_X2_kruskalLength_l8b (G : GS) (k8 : Nat) (v1_8 : Int32) (Rr_8 : GR) : Sum (Int32 × GR) (Int32 × GR) := (f_X2_kruskalLength_l16 G k8 (gS G) 0 (v1_8) (Rr_8))
def f_X2_kruskalLength_l8x (G : GS) (v1_8 : Int32) (Rr_8 : GR) : Int32 × GR := (v1_8, Rr_8)
def f_X2_kruskalLength_l8s (G : GS) (k8 : Nat) (q_ : Int32 × GR) : Sum (Int32 × GR) (Int32 × GR) := f_X2_kruskalLength_l8b G k8 (q_.1) (q_.2)
def f_X2_kruskalLength_l8e (G : GS) (q_ : Int32 × GR) : Int32 × GR := f_X2_kruskalLength_l8x G (q_.1) (q_.2)
def f_X2_kruskalLength_l8 (G : GS) (n8 k8 : Nat) (v1_8 : Int32) (Rr_8 : GR) : Int32 × GR := lpF (f_X2_kruskalLength_l8s G) (f_X2_kruskalLength_l8e G) n8 k8 (v1_8, Rr_8)
def f_X2_kruskalLength (Rr : GR) (G : GS) : Int32 × GR := (lt_ (f_X2_separateAll Rr) (fun y1 => (f_X2_kruskalLength_l8 G (10 - 1) 1 (0) (y1))))
set_option maxHeartbeats 4000000 in
set_option maxRecDepth 100000 in
theorem c_X2_kruskalLength (l : Launch) (D : va_G) (C : Nat → ClassId) (g : Nat → Nat) (Rr : GR) (a : Nat → Nat) (G : GS) (sz : Nat) (hR : RSafe Rr) (hG : GSafe G) : Met l yX2_kruskalLength wsX2_kruskalLength ({ frames := 2, cells := 0, slots := 0, locals := 46 } : Room) (rwP [.ref (g 0)] D C (grcells C g (a 0) Rr ++ gcells C a G) sz) (rwO (some (.int (f_X2_kruskalLength Rr G).1)) D (grcells C g (a 0) ((f_X2_kruskalLength Rr G).2) ++ gcells C a G) (va_A (grcells C g (a 0) Rr ++ gcells C a G) sz)) 0 0 (va_A (grcells C g (a 0) Rr ++ gcells C a G) sz) := by
  refine Met.ofW (cc := cX2_kruskalLength) (maxL := 4) (ret := (some .int)) (by decide) rfl ?_
  intro p e s m args below meth c s₁ B hml hv
  obtain ⟨rfl, hsz, hP, hK, hD0, hE⟩ := hv
  have hx := B.exec
  have hb := B.bytes
  have hr := B.returns
  have hts := atoms_spec (ws := wsX2_kruskalLength) B.pre
  have hown : s.vm.findClass RX2 = some m.cls := findClass_of_methodNamed B.named
  have hlocks := B.notSynchronized
  subst hsz
  have hD := hD0.self (sz := s.heap.size)
  generalize hAe : va_A (grcells C g (a 0) Rr ++ gcells C a G) s.heap.size = A at hD ⊢
  have hA : ∀ q : Nat, s.heap.size ≤ q → A q := fun q h => by rw [← hAe]; exact Or.inr h
  have hS0 : va_S A s.heap s.heap [] := va_S.rf
  have hP : va_P D vwCl (grcells C g (a 0) Rr ++ gcells C a G) s.heap := hP
  have hS := hS0
  obtain hpar := id hR
  obtain ⟨hS12, hP4, hlo, hhi⟩ := id hG
  have hinX1 : ∀ w ∈ u_ws RX1 TX1 16, w ∈ wsX2_kruskalLength := by decide +kernel
  have hinX2 : ∀ w ∈ u_ws RX2 TX2 4, w ∈ wsX2_kruskalLength := by decide +kernel
  have hl := lv_entry ([.ref (g 0)]) (n := 4) (Nat.le_of_ble_eq_true rfl)
  rw [lg_entry_eq]
  generalize (lg_sl ([.ref (g 0)]) ++ List.replicate (4 - (lg_sl ([.ref (g 0)])).length) Slot.unset).toArray = ls at hl ⊢
  have hl : lv_has ls 4 [(0, .ref (g 0))] := hl
  obtain ⟨z, hz⟩ : ∃ z, z = f_X2_kruskalLength Rr G := ⟨_, rfl⟩
  rw [← hz]
  have J8 : ∀ (n8 k8 : Nat) (v1_8 : Int32) (Rr_8 : GR) (H : Heap) (locs : List Loc) (ls : Array Slot), k8 + n8 = 10 → z = f_X2_kruskalLength_l8 G n8 k8 v1_8 Rr_8 → RSafe Rr_8 → va_P D vwCl (grcells C g (a 0) Rr_8 ++ gcells C a G) H → va_D A (grcells C g (a 0) Rr_8 ++ gcells C a G) → va_S A s.heap H locs → lv_has ls 4 [(0, .ref (g 0)), (1, .int v1_8), (2, .int (nI k8))] → W p l e ({ frames := 2, cells := 0, slots := 0, locals := 46 } : Room) s m ([.ref (g 0)] : List Value).toArray below meth c H locs 0 0 (MQ below (rwO (some (.int z.1)) D (grcells C g (a 0) z.2 ++ gcells C a G) A) ([.ref (g 0)] : List Value).toArray s 0 0 A) (F0 m 8 ls []) := by
    intro n8
    induction n8 with
    | zero =>
      intro k8 v1_8 Rr_8 H locs ls hk8 hz iv8_0 hP hD hS hl
      have hz : z = f_X2_kruskalLength_l8x G v1_8 Rr_8 := hz
      refine lv_iload_n hx hb dX2_kruskalLength_8 rfl (lv_at hl 2 rfl) ?_
      refine lv_bipush (v := 9) hx hb dX2_kruskalLength_9 (by decide) ?_
      refine lv_icmp_gt (tgt := 75) hx hb dX2_kruskalLength_11 (by decide) (fun c_11 => ?_) (fun c_11 => absurd (by have e : (9 : Int32) = nI 9 := (by decide); rw [e]; exact nI_lt (by omega) (by omega)) c_11)
      refine lv_iload_n hx hb dX2_kruskalLength_75 rfl (lv_at hl 1 rfl) ?_
      have hz : z = (v1_8, Rr_8) := hz
      rw [hz]
      exact rw_ret hx hb hr hP hS rfl dX2_kruskalLength_76 hlocks
    | succ n8 ih8 =>
      intro k8 v1_8 Rr_8 H locs ls hk8 hz8 iv8_0 hP hD hS hl
      obtain ⟨z8, hz⟩ : ∃ zz_, zz_ = f_X2_kruskalLength_l8b G k8 v1_8 Rr_8 := ⟨_, rfl⟩
      have hq8 : z = sE id (fun q_ => lpF (f_X2_kruskalLength_l8s G) (f_X2_kruskalLength_l8e G) n8 (k8 + 1) q_) z8 := by rw [hz8, hz]; rfl
      have J16 : ∀ (n16 k16 : Nat) (v1_16 : Int32) (Rr_16 : GR) (H : Heap) (locs : List Loc) (ls : Array Slot), k16 + n16 = gS G → z8 = f_X2_kruskalLength_l16 G k8 n16 k16 v1_16 Rr_16 → RSafe Rr_16 → va_P D vwCl (grcells C g (a 0) Rr_16 ++ gcells C a G) H → va_D A (grcells C g (a 0) Rr_16 ++ gcells C a G) → va_S A s.heap H locs → lv_has ls 4 [(0, .ref (g 0)), (1, .int v1_16), (2, .int (nI k8)), (3, .int (nI k16))] → W p l e ({ frames := 2, cells := 0, slots := 0, locals := 46 } : Room) s m ([.ref (g 0)] : List Value).toArray below meth c H locs 0 0 (MQ below (rwO (some (.int z.1)) D (grcells C g (a 0) z.2 ++ gcells C a G) A) ([.ref (g 0)] : List Value).toArray s 0 0 A) (F0 m 16 ls []) := by
        intro n16
        induction n16 with
        | zero =>
          intro k16 v1_16 Rr_16 H locs ls hk16 hz iv16_0 hP hD hS hl
          have hz : z8 = f_X2_kruskalLength_l16x G k8 v1_16 Rr_16 := hz
          refine lv_iload_n hx hb dX2_kruskalLength_16 rfl (lv_at hl 3 rfl) ?_
          refine lv_aload_n hx hb dX2_kruskalLength_17 rfl (lv_at hl 0 rfl) ?_
          refine va_get (D := D) (ci := 5) (v := .ref (a 0)) (C := RX2) (T := TX2) (N := 4) hx hb hts hinX2 hown hK hP 0 rfl rfl 0 (by decide) (hts (.fieldLink RX2 21 "BridgeAuction$Graph" "game" "LBridgeAuction$Game;") (by decide +kernel)) (fun _ h9 => h9) rfl dX2_kruskalLength_18 ?_
          refine va_getN (D := D) (ci := 4) (v := .int (nI (gS G))) (C := RX1) (T := TX1) (N := 16) hx hb hts hinX1 hown hK hP 4 rfl rfl 5 (by decide) (hE.use 4 rfl) (fun _ h9 => h9) rfl dX2_kruskalLength_21 ?_
          refine lv_icmp_ge (tgt := 69) hx hb dX2_kruskalLength_24 (by decide) (fun c_24 => ?_) (fun c_24 => absurd (nI_le (by omega) (by omega)) c_24)
          refine lv_iinc (v := (nI (k8 + 1))) (lv' := [(2, .int (nI (k8 + 1))), (0, .ref (g 0)), (1, .int v1_16), (3, .int (nI k16))]) hx hb dX2_kruskalLength_69 hl (k := 2) rfl (by exact nI_1 _) (by decide) rfl (fun ls hl => ?_)
          refine lv_goto (tgt := 8) hx hb dX2_kruskalLength_72 (by decide) ?_
          exact ih8 (k8 + 1) (v1_16) (Rr_16) _ _ ls (by omega) (by rw [hq8, hz]; rfl) (by assumption) hP hD hS (lv_sub hl [1, 2, 0] rfl)
        | succ n16 ih16 =>
          intro k16 v1_16 Rr_16 H locs ls hk16 hz16 iv16_0 hP hD hS hl
          obtain ⟨z16, hz⟩ : ∃ zz_, zz_ = f_X2_kruskalLength_l16b G k8 k16 v1_16 Rr_16 := ⟨_, rfl⟩
          have hq16 : z8 = sE id (fun q_ => lpF (f_X2_kruskalLength_l16s G k8) (f_X2_kruskalLength_l16e G k8) n16 (k16 + 1) q_) z16 := by rw [hz16, hz]; rfl
          have J63 : ∀ (v1_63 : Int32) (Rr_63 : GR)  (H : Heap) (locs : List Loc) (ls : Array Slot), z16 = f_X2_kruskalLength_j63 v1_63 Rr_63 → RSafe Rr_63 → va_P D vwCl (grcells C g (a 0) Rr_63 ++ gcells C a G) H → va_D A (grcells C g (a 0) Rr_63 ++ gcells C a G) → va_S A s.heap H locs → lv_has ls 4 [(0, .ref (g 0)), (1, .int v1_63), (2, .int (nI k8)), (3, .int (nI k16))] → W p l e ({ frames := 2, cells := 0, slots := 0, locals := 46 } : Room) s m ([.ref (g 0)] : List Value).toArray below meth c H locs 0 0 (MQ below (rwO (some (.int z.1)) D (grcells C g (a 0) z.2 ++ gcells C a G) A) ([.ref (g 0)] : List Value).toArray s 0 0 A) (F0 m 63 ls []) := by
            intro v1_63 Rr_63 H locs ls hz iv63_0 hP hD hS hl
            refine lv_iinc (v := (nI (k16 + 1))) (lv' := [(3, .int (nI (k16 + 1))), (0, .ref (g 0)), (1, .int v1_63), (2, .int (nI k8))]) hx hb dX2_kruskalLength_63 hl (k := 3) rfl (by exact nI_1 _) (by decide) rfl (fun ls hl => ?_)
            refine lv_goto (tgt := 16) hx hb dX2_kruskalLength_66 (by decide) ?_
            exact ih16 (k16 + 1) (v1_63) (Rr_63) _ _ ls (by omega) (by rw [hq16, hz]; rfl) (by assumption) hP hD hS (lv_sub hl [1, 2, 3, 0] rfl)
          refine lv_iload_n hx hb dX2_kruskalLength_16 rfl (lv_at hl 3 rfl) ?_
          refine lv_aload_n hx hb dX2_kruskalLength_17 rfl (lv_at hl 0 rfl) ?_
          refine va_get (D := D) (ci := 5) (v := .ref (a 0)) (C := RX2) (T := TX2) (N := 4) hx hb hts hinX2 hown hK hP 0 rfl rfl 0 (by decide) (hts (.fieldLink RX2 21 "BridgeAuction$Graph" "game" "LBridgeAuction$Game;") (by decide +kernel)) (fun _ h9 => h9) rfl dX2_kruskalLength_18 ?_
          refine va_getN (D := D) (ci := 4) (v := .int (nI (gS G))) (C := RX1) (T := TX1) (N := 16) hx hb hts hinX1 hown hK hP 4 rfl rfl 5 (by decide) (hE.use 4 rfl) (fun _ h9 => h9) rfl dX2_kruskalLength_21 ?_
          refine lv_icmp_ge (tgt := 69) hx hb dX2_kruskalLength_24 (by decide) (fun c_24 => absurd c_24 (nI_ge (by omega) (by omega))) (fun c_24 => ?_)
          refine lv_aload_n hx hb dX2_kruskalLength_27 rfl (lv_at hl 0 rfl) ?_
          refine va_get (D := D) (ci := 5) (v := .ref (a 0)) (C := RX2) (T := TX2) (N := 4) hx hb hts hinX2 hown hK hP 0 rfl rfl 0 (by decide) (hts (.fieldLink RX2 21 "BridgeAuction$Graph" "game" "LBridgeAuction$Game;") (by decide +kernel)) (fun _ h9 => h9) rfl dX2_kruskalLength_28 ?_
          refine lv_iload_n hx hb dX2_kruskalLength_31 rfl (lv_at hl 3 rfl) ?_
          refine callRo (va_runV (As := [.int (nI k16)]) (rest := []) ⟨hx, hb, hml, hown, hts⟩ (c_X1_hasBridge l D C a G (k16) hG (by omega)) (cwV 1 hts gX2_kruskalLength_X1_hasBridge rfl rfl rfl (by decide +kernel) ⟨Nat.le_of_ble_eq_true rfl, Nat.le_of_ble_eq_true rfl⟩) (roP_v (hP.sub (ws' := (gcells C a G)) [4, 5, 6, 7, 8, 9, 10, 11, 12] rfl) hK hE (va_recv hK (hP.sub (ws' := (gcells C a G)) [4, 5, 6, 7, 8, 9, 10, 11, 12] rfl) (ci := 4) (q0 := 0) rfl rfl)) rfl rfl hl.1 rfl (lv_room (Nat.le_of_ble_eq_true rfl)) dX2_kruskalLength_32 ⟨Nat.le_refl _, Nat.le_refl _⟩) ?_
          refine bif_eq (tgt := 63) hx hb dX2_kruskalLength_35 (by decide) (fun c_35 => ?_) (fun c_35 => ?_)
          · have hz := hz.trans (ifB_f c_35)
            exact J63 (v1_16) (Rr_16) _ _ ls hz (by assumption) hP hD hS (lv_sub hl [0, 1, 2, 3] rfl)
          · have hz := hz.trans (ifB_t c_35)
            refine lv_aload_n hx hb dX2_kruskalLength_38 rfl (lv_at hl 0 rfl) ?_
            refine va_get (D := D) (ci := 5) (v := .ref (a 0)) (C := RX2) (T := TX2) (N := 4) hx hb hts hinX2 hown hK hP 0 rfl rfl 0 (by decide) (hts (.fieldLink RX2 21 "BridgeAuction$Graph" "game" "LBridgeAuction$Game;") (by decide +kernel)) (fun _ h9 => h9) rfl dX2_kruskalLength_39 ?_
            refine va_getN (D := D) (ci := 4) (v := .ref (a 5)) (C := RX1) (T := TX1) (N := 16) hx hb hts hinX1 hown hK hP 4 rfl rfl 8 (by decide) (hE.use 10 rfl) (fun _ h9 => h9) rfl dX2_kruskalLength_42 ?_
            refine lv_iload_n hx hb dX2_kruskalLength_45 rfl (lv_at hl 3 rfl) ?_
            refine ialdN (tys := tyA C) hx hb hK hP 9 0 rfl rfl (i := k16) (by omega) (by decide) dX2_kruskalLength_46 ?_
            refine lv_iload_n hx hb dX2_kruskalLength_47 rfl (lv_at hl 2 rfl) ?_
            refine lv_icmp_ne (tgt := 63) hx hb dX2_kruskalLength_48 (by decide) (fun c_48 => ?_) (fun c_48 => ?_)
            · have hz := hz.trans (if_neg c_48)
              exact J63 (v1_16) (Rr_16) _ _ ls hz (by assumption) hP hD hS (lv_sub hl [0, 1, 2, 3] rfl)
            · have hz := hz.trans (if_pos c_48)
              refine lv_aload_n hx hb dX2_kruskalLength_51 rfl (lv_at hl 0 rfl) ?_
              refine lv_iload_n hx hb dX2_kruskalLength_52 rfl (lv_at hl 3 rfl) ?_
              have hFc := va_free (wc := (grcells C g (a 0) Rr_16 ++ gcells C a G)) hD hS hA [0, 1, 2, 3, 4, 5, 6, 7, 8, 9, 10, 11, 12] rfl
              refine callRw (va_runV (As := [.int (nI k16)]) (rest := []) ⟨hx, hb, hml, hown, hts⟩ (c_X2_joinEnds l D C g Rr_16 a G (k16) _ (by assumption) hG (by omega)) (cwV 1 hts gX2_kruskalLength_X2_joinEnds rfl rfl rfl (by decide +kernel) ⟨Nat.le_of_ble_eq_true rfl, Nat.le_of_ble_eq_true rfl⟩) (rwP_v hP hK hE hD (va_recv hK hP (ci := 5) (q0 := 0) rfl rfl)) rfl rfl hl.1 rfl (lv_room (Nat.le_of_ble_eq_true rfl)) dX2_kruskalLength_53 ⟨Nat.le_refl _, Nat.le_refl _⟩) hS hFc (fun H1 locs hPn hk hS => ?_)
              generalize hy53 : (f_X2_joinEnds Rr_16 G (k16)) = y53 at hPn ⊢
              have hz := lt_eq hz hy53.symm
              have hP : va_P D vwCl (grcells C g (a 0) y53.2 ++ gcells C a G) H1 := hPn
              have hD : va_D A (grcells C g (a 0) y53.2 ++ gcells C a G) := adr_D hD rfl
              generalize H1 = H at hP hS ⊢
              have hs53 : RSafe y53.2 := by rw [← hy53]; exact joinEnds_safe (by assumption) hG _
              refine bif_eq (tgt := 63) hx hb dX2_kruskalLength_56 (by decide) (fun c_56 => ?_) (fun c_56 => ?_)
              · have hz := hz.trans (ifB_f c_56)
                exact J63 (v1_16) (y53.2) _ _ ls hz (by assumption) hP hD hS (lv_sub hl [0, 1, 2, 3] rfl)
              · have hz := hz.trans (ifB_t c_56)
                refine lv_iload_n hx hb dX2_kruskalLength_59 rfl (lv_at hl 1 rfl) ?_
                refine lv_iload_n hx hb dX2_kruskalLength_60 rfl (lv_at hl 2 rfl) ?_
                refine lv_iadd hx hb dX2_kruskalLength_61 ?_
                refine lv_istore_n (lv' := [(1, .int (v1_16 + (nI k8))), (0, .ref (g 0)), (2, .int (nI k8)), (3, .int (nI k16))]) hx hb dX2_kruskalLength_62 rfl hl (by decide) rfl (fun ls hl => ?_)
                exact J63 ((v1_16 + (nI k8))) (y53.2) _ _ ls hz (by assumption) hP hD hS (lv_sub hl [1, 0, 2, 3] rfl)
      refine lv_iload_n hx hb dX2_kruskalLength_8 rfl (lv_at hl 2 rfl) ?_
      refine lv_bipush (v := 9) hx hb dX2_kruskalLength_9 (by decide) ?_
      refine lv_icmp_gt (tgt := 75) hx hb dX2_kruskalLength_11 (by decide) (fun c_11 => absurd c_11 (by have e : (9 : Int32) = nI 9 := (by decide); rw [e]; exact nI_nlt (by omega) (by omega))) (fun c_11 => ?_)
      refine lv_iconst (v := 0) hx hb dX2_kruskalLength_14 (by decide) ?_
      refine lv_istore_n (lv' := [(3, .int 0), (0, .ref (g 0)), (1, .int v1_8), (2, .int (nI k8))]) hx hb dX2_kruskalLength_15 rfl hl (by decide) rfl (fun ls hl => ?_)
      exact J16 (gS G) 0 (v1_8) (Rr_8) _ _ ls (by omega) hz (by assumption) hP hD hS (lv_sub hl [1, 2, 3, 0] rfl)
  refine lv_aload_n hx hb dX2_kruskalLength_0 rfl (lv_at hl 0 rfl) ?_
  have hPc := hP.sub (ws' := (grcells C g (a 0) Rr)) [0, 1, 2, 3] rfl
  have hDc := hD.sub (ws' := (grcells C g (a 0) Rr)) [0, 1, 2, 3] (by decide) rfl
  have hFc := va_free (wc := (grcells C g (a 0) Rr)) hD hS hA [0, 1, 2, 3] rfl
  refine callRw (va_runV (As := []) (rest := []) ⟨hx, hb, hml, hown, hts⟩ (c_X2_separateAll l D C g Rr _) (cwV 0 hts gX2_kruskalLength_X2_separateAll rfl rfl rfl (by decide +kernel) ⟨Nat.le_of_ble_eq_true rfl, Nat.le_of_ble_eq_true rfl⟩) (rwP_v hPc hK hE hDc (va_recv hK hPc (ci := 5) (q0 := 0) rfl rfl)) rfl rfl hl.1 rfl (lv_room (Nat.le_of_ble_eq_true rfl)) dX2_kruskalLength_1 ⟨Nat.le_refl _, Nat.le_refl _⟩) hS hFc (fun H1 locs hPn hk hS => ?_)
  generalize hy1 : (f_X2_separateAll Rr) = y1 at hPn ⊢
  have hz := lt_eq hz hy1.symm
  have hP : va_P D vwCl (grcells C g (a 0) y1 ++ gcells C a G) H1 := rwJoin (wr := (gcells C a G)) (ws' := (grcells C g (a 0) y1 ++ gcells C a G)) hP hD [0, 1, 2, 3] [4, 5, 6, 7, 8, 9, 10, 11, 12] rfl rfl (by decide) (by decide) (by decide) hk hFc hPn rfl [9, 10, 11, 12, 0, 1, 2, 3, 4, 5, 6, 7, 8] rfl
  have hD : va_D A (grcells C g (a 0) y1 ++ gcells C a G) := adr_D hD rfl
  generalize H1 = H at hP hS ⊢
  have hs1 : RSafe y1 := by rw [← hy1]; exact separateAll_safe _
  refine lv_iconst (v := 0) hx hb dX2_kruskalLength_4 (by decide) ?_
  refine lv_istore_n (lv' := [(1, .int 0), (0, .ref (g 0))]) hx hb dX2_kruskalLength_5 rfl hl (by decide) rfl (fun ls hl => ?_)
  refine lv_iconst (v := 1) hx hb dX2_kruskalLength_6 (by decide) ?_
  refine lv_istore_n (lv' := [(2, .int 1), (1, .int 0), (0, .ref (g 0))]) hx hb dX2_kruskalLength_7 rfl hl (by decide) rfl (fun ls hl => ?_)
  exact J8 (10 - 1) 1 (0) (y1) _ _ ls (by omega) hz (by assumption) hP hD hS (lv_sub hl [2, 1, 0] rfl)

def f_X2_shortestLeaving_j95  (v2_95 : Int32) : Sum (Int32) (Int32) := (Sum.inr v2_95)
def f_X2_shortestLeaving_j93 (k4 : Nat) : Sum (Int32) (Int32) := (f_X2_shortestLeaving_j95 ((nI k4)))
def f_X2_shortestLeaving_j60 (G : GS) (k4 : Nat) (v2_60 : Int32) (s0_60 : Bool) : Sum (Int32) (Int32) := (if s0_60 = true then (if v2_60 = (-1) then (f_X2_shortestLeaving_j93 k4) else (if ((gLen G) v2_60.toNatClampNeg) ≤ ((gLen G) k4) then (f_X2_shortestLeaving_j95 (v2_60)) else (f_X2_shortestLeaving_j93 k4))) else (f_X2_shortestLeaving_j95 (v2_60)))
def f_X2_shortestLeaving_j59 (G : GS) (k4 : Nat) (v2_59 : Int32) : Sum (Int32) (Int32) := (f_X2_shortestLeaving_j60 G k4 (v2_59) (false))
def f_X2_shortestLeaving_l4b (G : GS) (x : Int32) (k4 : Nat) (v2_4 : Int32) : Sum (Int32) (Int32) := (if (f_X1_hasBridge G (k4)) = true then (if (bI (f_X2_contains (x) ((nI ((gLo G) k4))))) = (bI (f_X2_contains (x) ((nI ((gHi G) k4))))) then (f_X2_shortestLeaving_j59 G k4 (v2_4)) else (f_X2_shortestLeaving_j60 G k4 (v2_4) (true))) else (f_X2_shortestLeaving_j59 G k4 (v2_4)))
def f_X2_shortestLeaving_l4x (G : GS) (x : Int32) (v2_4 : Int32) : Int32 := v2_4
def f_X2_shortestLeaving_l4s (G : GS) (x : Int32) (k4 : Nat) (q_ : Int32) : Sum (Int32) (Int32) := f_X2_shortestLeaving_l4b G x k4 (q_)
def f_X2_shortestLeaving_l4e (G : GS) (x : Int32) (q_ : Int32) : Int32 := f_X2_shortestLeaving_l4x G x (q_)
def f_X2_shortestLeaving_l4 (G : GS) (x : Int32) (n4 k4 : Nat) (v2_4 : Int32) : Int32 := lpF (f_X2_shortestLeaving_l4s G x) (f_X2_shortestLeaving_l4e G x) n4 k4 v2_4
def f_X2_shortestLeaving (Rr : GR) (G : GS) (x : Int32) : Int32 := (f_X2_shortestLeaving_l4 G x (gS G) 0 ((-1)))
set_option maxHeartbeats 4000000 in
set_option maxRecDepth 100000 in
theorem c_X2_shortestLeaving (l : Launch) (D : va_G) (C : Nat → ClassId) (g : Nat → Nat) (Rr : GR) (a : Nat → Nat) (G : GS) (x : Int32) (hR : RSafe Rr) (hG : GSafe G) : Met l yX2_shortestLeaving wsX2_shortestLeaving ({ frames := 1, cells := 0, slots := 0, locals := 21 } : Room) (roP [.ref (g 0), .int x] D C (grcells C g (a 0) Rr ++ gcells C a G)) (roO (some (.int (f_X2_shortestLeaving Rr G x)))) 0 0 (fun _ => False) := by
  refine Met.ofW (cc := cX2_shortestLeaving) (maxL := 5) (ret := (some .int)) (by decide) rfl ?_
  intro p e s m args below meth c s₁ B hml hv
  obtain ⟨rfl, hP, hK, hE⟩ := hv
  have hx := B.exec
  have hb := B.bytes
  have hr := B.returns
  have hts := atoms_spec (ws := wsX2_shortestLeaving) B.pre
  have hown : s.vm.findClass RX2 = some m.cls := findClass_of_methodNamed B.named
  have hlocks := B.notSynchronized
  obtain hpar := id hR
  obtain ⟨hS12, hP4, hlo, hhi⟩ := id hG
  have hinX1 : ∀ w ∈ u_ws RX1 TX1 16, w ∈ wsX2_shortestLeaving := by decide +kernel
  have hinX2 : ∀ w ∈ u_ws RX2 TX2 4, w ∈ wsX2_shortestLeaving := by decide +kernel
  have hl := lv_entry ([.ref (g 0), .int x]) (n := 5) (Nat.le_of_ble_eq_true rfl)
  rw [lg_entry_eq]
  generalize (lg_sl ([.ref (g 0), .int x]) ++ List.replicate (5 - (lg_sl ([.ref (g 0), .int x])).length) Slot.unset).toArray = ls at hl ⊢
  have hl : lv_has ls 5 [(0, .ref (g 0)), (1, .int x)] := hl
  obtain ⟨z, hz⟩ : ∃ z, z = f_X2_shortestLeaving Rr G x := ⟨_, rfl⟩
  rw [← hz]
  have J4 : ∀ (n4 k4 : Nat) (v2_4 : Int32) (ls : Array Slot), k4 + n4 = gS G → z = f_X2_shortestLeaving_l4 G x n4 k4 v2_4 → (v2_4 = -1 ∨ vp_in v2_4 12) → lv_has ls 5 [(0, .ref (g 0)), (1, .int x), (2, .int v2_4), (3, .int (nI k4))] → W p l e ({ frames := 1, cells := 0, slots := 0, locals := 21 } : Room) s m ([.ref (g 0), .int x] : List Value).toArray below meth c s.heap [] 0 0 (MQ below (roO (some (.int z))) ([.ref (g 0), .int x] : List Value).toArray s 0 0 (fun _ => False)) (F0 m 4 ls []) := by
    intro n4
    induction n4 with
    | zero =>
      intro k4 v2_4 ls hk4 hz iv4_0 hl
      have hz : z = f_X2_shortestLeaving_l4x G x v2_4 := hz
      refine lv_iload_n hx hb dX2_shortestLeaving_4 rfl (lv_at hl 3 rfl) ?_
      refine lv_aload_n hx hb dX2_shortestLeaving_5 rfl (lv_at hl 0 rfl) ?_
      refine va_get (D := D) (ci := 5) (v := .ref (a 0)) (C := RX2) (T := TX2) (N := 4) hx hb hts hinX2 hown hK hP 0 rfl rfl 0 (by decide) (hts (.fieldLink RX2 21 "BridgeAuction$Graph" "game" "LBridgeAuction$Game;") (by decide +kernel)) (fun _ h9 => h9) rfl dX2_shortestLeaving_6 ?_
      refine va_getN (D := D) (ci := 4) (v := .int (nI (gS G))) (C := RX1) (T := TX1) (N := 16) hx hb hts hinX1 hown hK hP 4 rfl rfl 5 (by decide) (hE.use 4 rfl) (fun _ h9 => h9) rfl dX2_shortestLeaving_9 ?_
      refine lv_icmp_ge (tgt := 101) hx hb dX2_shortestLeaving_12 (by decide) (fun c_12 => ?_) (fun c_12 => absurd (nI_le (by omega) (by omega)) c_12)
      refine lv_iload_n hx hb dX2_shortestLeaving_101 rfl (lv_at hl 2 rfl) ?_
      exact ro_ret hx hb hr hz dX2_shortestLeaving_102 hlocks
    | succ n4 ih4 =>
      intro k4 v2_4 ls hk4 hz4 iv4_0 hl
      obtain ⟨z4, hz⟩ : ∃ zz_, zz_ = f_X2_shortestLeaving_l4b G x k4 v2_4 := ⟨_, rfl⟩
      have hq4 : z = sE id (fun q_ => lpF (f_X2_shortestLeaving_l4s G x) (f_X2_shortestLeaving_l4e G x) n4 (k4 + 1) q_) z4 := by rw [hz4, hz]; rfl
      have J95 : ∀ (v2_95 : Int32)  (ls : Array Slot), z4 = f_X2_shortestLeaving_j95 v2_95 → (v2_95 = -1 ∨ vp_in v2_95 12) → lv_has ls 5 [(0, .ref (g 0)), (1, .int x), (2, .int v2_95), (3, .int (nI k4))] → W p l e ({ frames := 1, cells := 0, slots := 0, locals := 21 } : Room) s m ([.ref (g 0), .int x] : List Value).toArray below meth c s.heap [] 0 0 (MQ below (roO (some (.int z))) ([.ref (g 0), .int x] : List Value).toArray s 0 0 (fun _ => False)) (F0 m 95 ls []) := by
        intro v2_95 ls hz iv95_0 hl
        refine lv_iinc (v := (nI (k4 + 1))) (lv' := [(3, .int (nI (k4 + 1))), (0, .ref (g 0)), (1, .int x), (2, .int v2_95)]) hx hb dX2_shortestLeaving_95 hl (k := 3) rfl (by exact nI_1 _) (by decide) rfl (fun ls hl => ?_)
        refine lv_goto (tgt := 4) hx hb dX2_shortestLeaving_98 (by decide) ?_
        exact ih4 (k4 + 1) (v2_95) ls (by omega) (by rw [hq4, hz]; rfl) (by first | assumption | exact Or.inl rfl | exact Or.inr (vp_in_nI (by omega) (by decide))) (lv_sub hl [1, 2, 3, 0] rfl)
      have J93 : ∀  (ls : Array Slot), z4 = f_X2_shortestLeaving_j93 k4 → lv_has ls 5 [(0, .ref (g 0)), (1, .int x), (3, .int (nI k4))] → W p l e ({ frames := 1, cells := 0, slots := 0, locals := 21 } : Room) s m ([.ref (g 0), .int x] : List Value).toArray below meth c s.heap [] 0 0 (MQ below (roO (some (.int z))) ([.ref (g 0), .int x] : List Value).toArray s 0 0 (fun _ => False)) (F0 m 93 ls []) := by
        intro  ls hz  hl
        refine lv_iload_n hx hb dX2_shortestLeaving_93 rfl (lv_at hl 2 rfl) ?_
        refine lv_istore_n (lv' := [(2, .int (nI k4)), (0, .ref (g 0)), (1, .int x), (3, .int (nI k4))]) hx hb dX2_shortestLeaving_94 rfl hl (by decide) rfl (fun ls hl => ?_)
        exact J95 ((nI k4)) ls hz (by first | assumption | exact Or.inl rfl | exact Or.inr (vp_in_nI (by omega) (by decide))) (lv_sub hl [1, 2, 0, 3] rfl)
      have J60 : ∀ (v2_60 : Int32) (s0_60 : Bool)  (ls : Array Slot), z4 = f_X2_shortestLeaving_j60 G k4 v2_60 s0_60 → lv_has ls 5 [(0, .ref (g 0)), (1, .int x), (2, .int v2_60), (3, .int (nI k4))] → W p l e ({ frames := 1, cells := 0, slots := 0, locals := 21 } : Room) s m ([.ref (g 0), .int x] : List Value).toArray below meth c s.heap [] 0 0 (MQ below (roO (some (.int z))) ([.ref (g 0), .int x] : List Value).toArray s 0 0 (fun _ => False)) (F0 m 60 ls [.int (bI s0_60)]) := by
        intro v2_60 s0_60 ls hz  hl
        refine lv_istore (lv' := [(4, .int (bI s0_60)), (0, .ref (g 0)), (1, .int x), (2, .int v2_60), (3, .int (nI k4))]) hx hb dX2_shortestLeaving_60 hl (by decide) rfl (fun ls hl => ?_)
        refine lv_iload hx hb dX2_shortestLeaving_62 (lv_at hl 0 rfl) ?_
        refine bif_eq (tgt := 95) hx hb dX2_shortestLeaving_64 (by decide) (fun c_64 => ?_) (fun c_64 => ?_)
        · have hz := hz.trans (ifB_f c_64)
          exact J95 (v2_60) ls hz (by first | assumption | exact Or.inl rfl | exact Or.inr (vp_in_nI (by omega) (by decide))) (lv_sub hl [1, 2, 3, 4] rfl)
        · have hz := hz.trans (ifB_t c_64)
          refine lv_iload_n hx hb dX2_shortestLeaving_67 rfl (lv_at hl 3 rfl) ?_
          refine lv_iconst (v := (-1)) hx hb dX2_shortestLeaving_68 (by decide) ?_
          refine lv_icmp_eq (tgt := 93) hx hb dX2_shortestLeaving_69 (by decide) (fun c_69 => ?_) (fun c_69 => ?_)
          · have hz := hz.trans (if_pos c_69)
            exact J93  ls hz  (lv_sub hl [1, 2, 4] rfl)
          · have hz := hz.trans (if_neg c_69)
            refine lv_aload_n hx hb dX2_shortestLeaving_72 rfl (lv_at hl 1 rfl) ?_
            refine va_get (D := D) (ci := 5) (v := .ref (a 0)) (C := RX2) (T := TX2) (N := 4) hx hb hts hinX2 hown hK hP 0 rfl rfl 0 (by decide) (hts (.fieldLink RX2 21 "BridgeAuction$Graph" "game" "LBridgeAuction$Game;") (by decide +kernel)) (fun _ h9 => h9) rfl dX2_shortestLeaving_73 ?_
            refine va_getN (D := D) (ci := 4) (v := .ref (a 5)) (C := RX1) (T := TX1) (N := 16) hx hb hts hinX1 hown hK hP 4 rfl rfl 8 (by decide) (hE.use 10 rfl) (fun _ h9 => h9) rfl dX2_shortestLeaving_76 ?_
            refine lv_iload_n hx hb dX2_shortestLeaving_79 rfl (lv_at hl 4 rfl) ?_
            refine ialdN (tys := tyA C) hx hb hK hP 9 0 rfl rfl (i := k4) (by omega) (by decide) dX2_shortestLeaving_80 ?_
            refine lv_aload_n hx hb dX2_shortestLeaving_81 rfl (lv_at hl 1 rfl) ?_
            refine va_get (D := D) (ci := 5) (v := .ref (a 0)) (C := RX2) (T := TX2) (N := 4) hx hb hts hinX2 hown hK hP 0 rfl rfl 0 (by decide) (hts (.fieldLink RX2 21 "BridgeAuction$Graph" "game" "LBridgeAuction$Game;") (by decide +kernel)) (fun _ h9 => h9) rfl dX2_shortestLeaving_82 ?_
            refine va_getN (D := D) (ci := 4) (v := .ref (a 5)) (C := RX1) (T := TX1) (N := 16) hx hb hts hinX1 hown hK hP 4 rfl rfl 8 (by decide) (hE.use 10 rfl) (fun _ h9 => h9) rfl dX2_shortestLeaving_85 ?_
            refine lv_iload_n hx hb dX2_shortestLeaving_88 rfl (lv_at hl 3 rfl) ?_
            obtain ⟨ehn_1, lhn_1⟩ := nat_of (x := v2_60) (n := 12) (by exact iv4_0.resolve_left c_69) (by omega)
            refine topN ehn_1 ?_
            refine ialdN (tys := tyA C) hx hb hK hP 9 0 rfl rfl (i := v2_60.toNatClampNeg) (by omega) (by decide) dX2_shortestLeaving_89 ?_
            refine lv_icmp_ge (tgt := 95) hx hb dX2_shortestLeaving_90 (by decide) (fun c_90 => ?_) (fun c_90 => ?_)
            · have hz := hz.trans (if_pos c_90)
              exact J95 (v2_60) ls hz (by first | assumption | exact Or.inl rfl | exact Or.inr (vp_in_nI (by omega) (by decide))) (lv_sub hl [1, 2, 3, 4] rfl)
            · have hz := hz.trans (if_neg c_90)
              exact J93  ls hz  (lv_sub hl [1, 2, 4] rfl)
      have J59 : ∀ (v2_59 : Int32)  (ls : Array Slot), z4 = f_X2_shortestLeaving_j59 G k4 v2_59 → lv_has ls 5 [(0, .ref (g 0)), (1, .int x), (2, .int v2_59), (3, .int (nI k4))] → W p l e ({ frames := 1, cells := 0, slots := 0, locals := 21 } : Room) s m ([.ref (g 0), .int x] : List Value).toArray below meth c s.heap [] 0 0 (MQ below (roO (some (.int z))) ([.ref (g 0), .int x] : List Value).toArray s 0 0 (fun _ => False)) (F0 m 59 ls []) := by
        intro v2_59 ls hz  hl
        refine lv_iconst (v := 0) hx hb dX2_shortestLeaving_59 (by decide) ?_
        exact J60 (v2_59) (false) ls hz  (lv_sub hl [0, 1, 2, 3] rfl)
      refine lv_iload_n hx hb dX2_shortestLeaving_4 rfl (lv_at hl 3 rfl) ?_
      refine lv_aload_n hx hb dX2_shortestLeaving_5 rfl (lv_at hl 0 rfl) ?_
      refine va_get (D := D) (ci := 5) (v := .ref (a 0)) (C := RX2) (T := TX2) (N := 4) hx hb hts hinX2 hown hK hP 0 rfl rfl 0 (by decide) (hts (.fieldLink RX2 21 "BridgeAuction$Graph" "game" "LBridgeAuction$Game;") (by decide +kernel)) (fun _ h9 => h9) rfl dX2_shortestLeaving_6 ?_
      refine va_getN (D := D) (ci := 4) (v := .int (nI (gS G))) (C := RX1) (T := TX1) (N := 16) hx hb hts hinX1 hown hK hP 4 rfl rfl 5 (by decide) (hE.use 4 rfl) (fun _ h9 => h9) rfl dX2_shortestLeaving_9 ?_
      refine lv_icmp_ge (tgt := 101) hx hb dX2_shortestLeaving_12 (by decide) (fun c_12 => absurd c_12 (nI_ge (by omega) (by omega))) (fun c_12 => ?_)
      refine lv_aload_n hx hb dX2_shortestLeaving_15 rfl (lv_at hl 0 rfl) ?_
      refine va_get (D := D) (ci := 5) (v := .ref (a 0)) (C := RX2) (T := TX2) (N := 4) hx hb hts hinX2 hown hK hP 0 rfl rfl 0 (by decide) (hts (.fieldLink RX2 21 "BridgeAuction$Graph" "game" "LBridgeAuction$Game;") (by decide +kernel)) (fun _ h9 => h9) rfl dX2_shortestLeaving_16 ?_
      refine lv_iload_n hx hb dX2_shortestLeaving_19 rfl (lv_at hl 3 rfl) ?_
      refine callRo (va_runV (As := [.int (nI k4)]) (rest := []) ⟨hx, hb, hml, hown, hts⟩ (c_X1_hasBridge l D C a G (k4) hG (by omega)) (cwV 1 hts gX2_shortestLeaving_X1_hasBridge rfl rfl rfl (by decide +kernel) ⟨Nat.le_of_ble_eq_true rfl, Nat.le_of_ble_eq_true rfl⟩) (roP_v (hP.sub (ws' := (gcells C a G)) [4, 5, 6, 7, 8, 9, 10, 11, 12] rfl) hK hE (va_recv hK (hP.sub (ws' := (gcells C a G)) [4, 5, 6, 7, 8, 9, 10, 11, 12] rfl) (ci := 4) (q0 := 0) rfl rfl)) rfl rfl hl.1 rfl (lv_room (Nat.le_of_ble_eq_true rfl)) dX2_shortestLeaving_20 ⟨Nat.le_refl _, Nat.le_refl _⟩) ?_
      refine bif_eq (tgt := 59) hx hb dX2_shortestLeaving_23 (by decide) (fun c_23 => ?_) (fun c_23 => ?_)
      · have hz := hz.trans (ifB_f c_23)
        exact J59 (v2_4) ls hz  (lv_sub hl [0, 1, 2, 3] rfl)
      · have hz := hz.trans (ifB_t c_23)
        refine lv_iload_n hx hb dX2_shortestLeaving_26 rfl (lv_at hl 1 rfl) ?_
        refine lv_aload_n hx hb dX2_shortestLeaving_27 rfl (lv_at hl 0 rfl) ?_
        refine va_get (D := D) (ci := 5) (v := .ref (a 0)) (C := RX2) (T := TX2) (N := 4) hx hb hts hinX2 hown hK hP 0 rfl rfl 0 (by decide) (hts (.fieldLink RX2 21 "BridgeAuction$Graph" "game" "LBridgeAuction$Game;") (by decide +kernel)) (fun _ h9 => h9) rfl dX2_shortestLeaving_28 ?_
        refine va_getN (D := D) (ci := 4) (v := .ref (a 3)) (C := RX1) (T := TX1) (N := 16) hx hb hts hinX1 hown hK hP 4 rfl rfl 6 (by decide) (hE.use 6 rfl) (fun _ h9 => h9) rfl dX2_shortestLeaving_31 ?_
        refine lv_iload_n hx hb dX2_shortestLeaving_34 rfl (lv_at hl 3 rfl) ?_
        refine ialdN (tys := tyA C) hx hb hK hP 7 0 rfl rfl (i := k4) (by omega) (by decide) dX2_shortestLeaving_35 ?_
        have hb_2 := hlo (k4)
        refine callRo (va_runS (As := [.int x, .int (nI ((gLo G) k4))]) (rest := []) ⟨hx, hb, hml, hown, hts⟩ (c_X2_contains l D C (x) ((nI ((gLo G) k4)))) (va_cwS 2 hts gX2_shortestLeaving_X2_contains rfl rfl rfl (by decide +kernel) ⟨Nat.le_of_ble_eq_true rfl, Nat.le_of_ble_eq_true rfl⟩) (roP_s (hP.sub (ws' := ([] : va_W)) [] rfl) hK hE) rfl rfl hl.1 rfl (lv_room (Nat.le_of_ble_eq_true rfl)) dX2_shortestLeaving_36 ⟨Nat.le_refl _, Nat.le_refl _⟩) ?_
        refine lv_iload_n hx hb dX2_shortestLeaving_39 rfl (lv_at hl 1 rfl) ?_
        refine lv_aload_n hx hb dX2_shortestLeaving_40 rfl (lv_at hl 0 rfl) ?_
        refine va_get (D := D) (ci := 5) (v := .ref (a 0)) (C := RX2) (T := TX2) (N := 4) hx hb hts hinX2 hown hK hP 0 rfl rfl 0 (by decide) (hts (.fieldLink RX2 21 "BridgeAuction$Graph" "game" "LBridgeAuction$Game;") (by decide +kernel)) (fun _ h9 => h9) rfl dX2_shortestLeaving_41 ?_
        refine va_getN (D := D) (ci := 4) (v := .ref (a 4)) (C := RX1) (T := TX1) (N := 16) hx hb hts hinX1 hown hK hP 4 rfl rfl 7 (by decide) (hE.use 8 rfl) (fun _ h9 => h9) rfl dX2_shortestLeaving_44 ?_
        refine lv_iload_n hx hb dX2_shortestLeaving_47 rfl (lv_at hl 3 rfl) ?_
        refine ialdN (tys := tyA C) hx hb hK hP 8 0 rfl rfl (i := k4) (by omega) (by decide) dX2_shortestLeaving_48 ?_
        have hb_3 := hhi (k4)
        refine callRo (va_runS (As := [.int x, .int (nI ((gHi G) k4))]) (rest := [.int (bI (f_X2_contains (x) ((nI ((gLo G) k4)))))]) ⟨hx, hb, hml, hown, hts⟩ (c_X2_contains l D C (x) ((nI ((gHi G) k4)))) (va_cwS 2 hts gX2_shortestLeaving_X2_contains rfl rfl rfl (by decide +kernel) ⟨Nat.le_of_ble_eq_true rfl, Nat.le_of_ble_eq_true rfl⟩) (roP_s (hP.sub (ws' := ([] : va_W)) [] rfl) hK hE) rfl rfl hl.1 rfl (lv_room (Nat.le_of_ble_eq_true rfl)) dX2_shortestLeaving_49 ⟨Nat.le_refl _, Nat.le_refl _⟩) ?_
        refine lv_icmp_eq (tgt := 59) hx hb dX2_shortestLeaving_52 (by decide) (fun c_52 => ?_) (fun c_52 => ?_)
        · have hz := hz.trans (if_pos c_52)
          exact J59 (v2_4) ls hz  (lv_sub hl [0, 1, 2, 3] rfl)
        · have hz := hz.trans (if_neg c_52)
          refine lv_iconst (v := 1) hx hb dX2_shortestLeaving_55 (by decide) ?_
          refine lv_goto (tgt := 60) hx hb dX2_shortestLeaving_56 (by decide) ?_
          exact J60 (v2_4) (true) ls hz  (lv_sub hl [0, 1, 2, 3] rfl)
  refine lv_iconst (v := (-1)) hx hb dX2_shortestLeaving_0 (by decide) ?_
  refine lv_istore_n (lv' := [(2, .int (-1)), (0, .ref (g 0)), (1, .int x)]) hx hb dX2_shortestLeaving_1 rfl hl (by decide) rfl (fun ls hl => ?_)
  refine lv_iconst (v := 0) hx hb dX2_shortestLeaving_2 (by decide) ?_
  refine lv_istore_n (lv' := [(3, .int 0), (2, .int (-1)), (0, .ref (g 0)), (1, .int x)]) hx hb dX2_shortestLeaving_3 rfl hl (by decide) rfl (fun ls hl => ?_)
  exact J4 (gS G) 0 ((-1)) ls (by omega) hz (by first | assumption | exact Or.inl rfl | exact Or.inr (vp_in_nI (by omega) (by decide))) (lv_sub hl [2, 3, 1, 0] rfl)

theorem shortestLeaving_in {R : GR} {G : GS} (hG : GSafe G) {x : Int32} (h : ¬ f_X2_shortestLeaving G x = -1) : vp_in (f_X2_shortestLeaving G x) 12 := by sorry
def f_X2_primLength_j91  (v1_91 : Int32) (v2_91 : Int32) : Sum (Int32) (Int32 × Int32) := (Sum.inr (v1_91, v2_91))
def f_X2_primLength_l21b (Rr : GR) (G : GS) (k21 : Nat) (v1_21 : Int32) (v2_21 : Int32) : Sum (Sum (Int32) (Int32 × Int32)) (Int32 × Int32) := (if (f_X2_shortestLeaving Rr G (v2_21)) = (-1) then (Sum.inl (f_X2_primLength_j91 (v1_21) (v2_21))) else (Sum.inr ((v1_21 + ((gLen G) ((f_X2_shortestLeaving Rr G (v2_21))).toNatClampNeg)), (v2_21 ||| ((1 <<< ((nI ((gLo G) ((f_X2_shortestLeaving Rr G (v2_21))).toNatClampNeg)) &&& 31)) ||| (1 <<< ((nI ((gHi G) ((f_X2_shortestLeaving Rr G (v2_21))).toNatClampNeg)) &&& 31)))))))
def f_X2_primLength_l21x (Rr : GR) (G : GS) (v1_21 : Int32) (v2_21 : Int32) : Sum (Int32) (Int32 × Int32) := (f_X2_primLength_j91 (v1_21) (v2_21))
def f_X2_primLength_l21s (Rr : GR) (G : GS) (k21 : Nat) (q_ : Int32 × Int32) : Sum (Sum (Int32) (Int32 × Int32)) (Int32 × Int32) := f_X2_primLength_l21b Rr G k21 (q_.1) (q_.2)
def f_X2_primLength_l21e (Rr : GR) (G : GS) (q_ : Int32 × Int32) : Sum (Int32) (Int32 × Int32) := f_X2_primLength_l21x Rr G (q_.1) (q_.2)
def f_X2_primLength_l21 (Rr : GR) (G : GS) (n21 k21 : Nat) (v1_21 : Int32) (v2_21 : Int32) : Sum (Int32) (Int32 × Int32) := lpF (f_X2_primLength_l21s Rr G) (f_X2_primLength_l21e Rr G) n21 k21 (v1_21, v2_21)
def f_X2_primLength_l6b (Rr : GR) (G : GS) (k6 : Nat) (v1_6 : Int32) (v2_6 : Int32) : Sum (Int32) (Int32 × Int32) := (f_X2_primLength_l21 Rr G (8 - 1) 1 (v1_6) ((v2_6 ||| (1 <<< ((nI k6) &&& 31)))))
def f_X2_primLength_l6x (Rr : GR) (G : GS) (v1_6 : Int32) (v2_6 : Int32) : Int32 := v1_6
def f_X2_primLength_l6s (Rr : GR) (G : GS) (k6 : Nat) (q_ : Int32 × Int32) : Sum (Int32) (Int32 × Int32) := f_X2_primLength_l6b Rr G k6 (q_.1) (q_.2)
def f_X2_primLength_l6e (Rr : GR) (G : GS) (q_ : Int32 × Int32) : Int32 := f_X2_primLength_l6x Rr G (q_.1) (q_.2)
def f_X2_primLength_l6 (Rr : GR) (G : GS) (n6 k6 : Nat) (v1_6 : Int32) (v2_6 : Int32) : Int32 := lpF (f_X2_primLength_l6s Rr G) (f_X2_primLength_l6e Rr G) n6 k6 (v1_6, v2_6)
def f_X2_primLength (Rr : GR) (G : GS) : Int32 := (f_X2_primLength_l6 Rr G (8) 0 (0) (0))
set_option maxHeartbeats 4000000 in
set_option maxRecDepth 100000 in
theorem c_X2_primLength (l : Launch) (D : va_G) (C : Nat → ClassId) (g : Nat → Nat) (Rr : GR) (a : Nat → Nat) (G : GS) (hR : RSafe Rr) (hG : GSafe G) : Met l yX2_primLength wsX2_primLength ({ frames := 2, cells := 0, slots := 0, locals := 45 } : Room) (roP [.ref (g 0)] D C (grcells C g (a 0) Rr ++ gcells C a G)) (roO (some (.int (f_X2_primLength Rr G)))) 0 0 (fun _ => False) := by
  refine Met.ofW (cc := cX2_primLength) (maxL := 6) (ret := (some .int)) (by decide) rfl ?_
  intro p e s m args below meth c s₁ B hml hv
  obtain ⟨rfl, hP, hK, hE⟩ := hv
  have hx := B.exec
  have hb := B.bytes
  have hr := B.returns
  have hts := atoms_spec (ws := wsX2_primLength) B.pre
  have hown : s.vm.findClass RX2 = some m.cls := findClass_of_methodNamed B.named
  have hlocks := B.notSynchronized
  obtain hpar := id hR
  obtain ⟨hS12, hP4, hlo, hhi⟩ := id hG
  have hinX1 : ∀ w ∈ u_ws RX1 TX1 16, w ∈ wsX2_primLength := by decide +kernel
  have hinX2 : ∀ w ∈ u_ws RX2 TX2 4, w ∈ wsX2_primLength := by decide +kernel
  have hl := lv_entry ([.ref (g 0)]) (n := 6) (Nat.le_of_ble_eq_true rfl)
  rw [lg_entry_eq]
  generalize (lg_sl ([.ref (g 0)]) ++ List.replicate (6 - (lg_sl ([.ref (g 0)])).length) Slot.unset).toArray = ls at hl ⊢
  have hl : lv_has ls 6 [(0, .ref (g 0))] := hl
  obtain ⟨z, hz⟩ : ∃ z, z = f_X2_primLength Rr G := ⟨_, rfl⟩
  rw [← hz]
  have J6 : ∀ (n6 k6 : Nat) (v1_6 : Int32) (v2_6 : Int32) (ls : Array Slot), k6 + n6 = 8 → z = f_X2_primLength_l6 Rr G n6 k6 v1_6 v2_6 → lv_has ls 6 [(0, .ref (g 0)), (1, .int v1_6), (2, .int v2_6), (3, .int (nI k6))] → W p l e ({ frames := 2, cells := 0, slots := 0, locals := 45 } : Room) s m ([.ref (g 0)] : List Value).toArray below meth c s.heap [] 0 0 (MQ below (roO (some (.int z))) ([.ref (g 0)] : List Value).toArray s 0 0 (fun _ => False)) (F0 m 6 ls []) := by
    intro n6
    induction n6 with
    | zero =>
      intro k6 v1_6 v2_6 ls hk6 hz  hl
      have hz : z = f_X2_primLength_l6x Rr G v1_6 v2_6 := hz
      refine lv_iload_n hx hb dX2_primLength_6 rfl (lv_at hl 3 rfl) ?_
      refine lv_bipush (v := 8) hx hb dX2_primLength_7 (by decide) ?_
      refine lv_icmp_ge (tgt := 97) hx hb dX2_primLength_9 (by decide) (fun c_9 => ?_) (fun c_9 => absurd (by have e : (8 : Int32) = nI 8 := (by decide); rw [e]; exact nI_le (by omega) (by omega)) c_9)
      refine lv_iload_n hx hb dX2_primLength_97 rfl (lv_at hl 1 rfl) ?_
      exact ro_ret hx hb hr hz dX2_primLength_98 hlocks
    | succ n6 ih6 =>
      intro k6 v1_6 v2_6 ls hk6 hz6  hl
      obtain ⟨z6, hz⟩ : ∃ zz_, zz_ = f_X2_primLength_l6b Rr G k6 v1_6 v2_6 := ⟨_, rfl⟩
      have hq6 : z = sE id (fun q_ => lpF (f_X2_primLength_l6s Rr G) (f_X2_primLength_l6e Rr G) n6 (k6 + 1) q_) z6 := by rw [hz6, hz]; rfl
      have J91 : ∀ (v1_91 : Int32) (v2_91 : Int32)  (ls : Array Slot), z6 = f_X2_primLength_j91 v1_91 v2_91 → lv_has ls 6 [(0, .ref (g 0)), (1, .int v1_91), (2, .int v2_91), (3, .int (nI k6))] → W p l e ({ frames := 2, cells := 0, slots := 0, locals := 45 } : Room) s m ([.ref (g 0)] : List Value).toArray below meth c s.heap [] 0 0 (MQ below (roO (some (.int z))) ([.ref (g 0)] : List Value).toArray s 0 0 (fun _ => False)) (F0 m 91 ls []) := by
        intro v1_91 v2_91 ls hz  hl
        refine lv_iinc (v := (nI (k6 + 1))) (lv' := [(3, .int (nI (k6 + 1))), (0, .ref (g 0)), (1, .int v1_91), (2, .int v2_91)]) hx hb dX2_primLength_91 hl (k := 3) rfl (by exact nI_1 _) (by decide) rfl (fun ls hl => ?_)
        refine lv_goto (tgt := 6) hx hb dX2_primLength_94 (by decide) ?_
        exact ih6 (k6 + 1) (v1_91) (v2_91) ls (by omega) (by rw [hq6, hz]; rfl)  (lv_sub hl [1, 2, 3, 0] rfl)
      have J21 : ∀ (n21 k21 : Nat) (v1_21 : Int32) (v2_21 : Int32) (ls : Array Slot), k21 + n21 = 8 → z6 = f_X2_primLength_l21 Rr G n21 k21 v1_21 v2_21 → lv_has ls 6 [(0, .ref (g 0)), (1, .int v1_21), (2, .int v2_21), (3, .int (nI k6)), (4, .int (nI k21))] → W p l e ({ frames := 2, cells := 0, slots := 0, locals := 45 } : Room) s m ([.ref (g 0)] : List Value).toArray below meth c s.heap [] 0 0 (MQ below (roO (some (.int z))) ([.ref (g 0)] : List Value).toArray s 0 0 (fun _ => False)) (F0 m 21 ls []) := by
        intro n21
        induction n21 with
        | zero =>
          intro k21 v1_21 v2_21 ls hk21 hz  hl
          have hz : z6 = f_X2_primLength_l21x Rr G v1_21 v2_21 := hz
          refine lv_iload hx hb dX2_primLength_21 (lv_at hl 4 rfl) ?_
          refine lv_bipush (v := 8) hx hb dX2_primLength_23 (by decide) ?_
          refine lv_icmp_ge (tgt := 91) hx hb dX2_primLength_25 (by decide) (fun c_25 => ?_) (fun c_25 => absurd (by have e : (8 : Int32) = nI 8 := (by decide); rw [e]; exact nI_le (by omega) (by omega)) c_25)
          exact J91 (v1_21) (v2_21) ls hz  (lv_sub hl [0, 1, 2, 3] rfl)
        | succ n21 ih21 =>
          intro k21 v1_21 v2_21 ls hk21 hz21  hl
          obtain ⟨z21, hz⟩ : ∃ zz_, zz_ = f_X2_primLength_l21b Rr G k21 v1_21 v2_21 := ⟨_, rfl⟩
          have hq21 : z6 = sE id (fun q_ => lpF (f_X2_primLength_l21s Rr G) (f_X2_primLength_l21e Rr G) n21 (k21 + 1) q_) z21 := by rw [hz21, hz]; rfl
          refine lv_iload hx hb dX2_primLength_21 (lv_at hl 4 rfl) ?_
          refine lv_bipush (v := 8) hx hb dX2_primLength_23 (by decide) ?_
          refine lv_icmp_ge (tgt := 91) hx hb dX2_primLength_25 (by decide) (fun c_25 => absurd c_25 (by have e : (8 : Int32) = nI 8 := (by decide); rw [e]; exact nI_ge (by omega) (by omega))) (fun c_25 => ?_)
          refine lv_aload_n hx hb dX2_primLength_28 rfl (lv_at hl 0 rfl) ?_
          refine lv_iload_n hx hb dX2_primLength_29 rfl (lv_at hl 2 rfl) ?_
          refine callRo (va_runV (As := [.int v2_21]) (rest := []) ⟨hx, hb, hml, hown, hts⟩ (c_X2_shortestLeaving l D C g Rr a G (v2_21) hR hG) (cwV 1 hts gX2_primLength_X2_shortestLeaving rfl rfl rfl (by decide +kernel) ⟨Nat.le_of_ble_eq_true rfl, Nat.le_of_ble_eq_true rfl⟩) (roP_v hP hK hE (va_recv hK hP (ci := 5) (q0 := 0) rfl rfl)) rfl rfl hl.1 rfl (lv_room (Nat.le_of_ble_eq_true rfl)) dX2_primLength_30 ⟨Nat.le_refl _, Nat.le_refl _⟩) ?_
          refine lv_istore (lv' := [(5, .int (f_X2_shortestLeaving Rr G (v2_21))), (0, .ref (g 0)), (1, .int v1_21), (2, .int v2_21), (3, .int (nI k6)), (4, .int (nI k21))]) hx hb dX2_primLength_33 hl (by decide) rfl (fun ls hl => ?_)
          refine lv_iload hx hb dX2_primLength_35 (lv_at hl 0 rfl) ?_
          refine lv_iconst (v := (-1)) hx hb dX2_primLength_37 (by decide) ?_
          refine lv_icmp_ne (tgt := 44) hx hb dX2_primLength_38 (by decide) (fun c_38 => ?_) (fun c_38 => ?_)
          · have hz := hz.trans (if_neg c_38)
            refine lv_iload_n hx hb dX2_primLength_44 rfl (lv_at hl 2 rfl) ?_
            refine lv_aload_n hx hb dX2_primLength_45 rfl (lv_at hl 1 rfl) ?_
            refine va_get (D := D) (ci := 5) (v := .ref (a 0)) (C := RX2) (T := TX2) (N := 4) hx hb hts hinX2 hown hK hP 0 rfl rfl 0 (by decide) (hts (.fieldLink RX2 21 "BridgeAuction$Graph" "game" "LBridgeAuction$Game;") (by decide +kernel)) (fun _ h9 => h9) rfl dX2_primLength_46 ?_
            refine va_getN (D := D) (ci := 4) (v := .ref (a 5)) (C := RX1) (T := TX1) (N := 16) hx hb hts hinX1 hown hK hP 4 rfl rfl 8 (by decide) (hE.use 10 rfl) (fun _ h9 => h9) rfl dX2_primLength_49 ?_
            refine lv_iload hx hb dX2_primLength_52 (lv_at hl 0 rfl) ?_
            obtain ⟨ehn_1, lhn_1⟩ := nat_of (x := (f_X2_shortestLeaving Rr G (v2_21))) (n := 12) (by exact shortestLeaving_in (R := Rr) hG c_37) (by omega)
            refine topN ehn_1 ?_
            refine ialdN (tys := tyA C) hx hb hK hP 9 0 rfl rfl (i := ((f_X2_shortestLeaving Rr G (v2_21))).toNatClampNeg) (by omega) (by decide) dX2_primLength_54 ?_
            refine lv_iadd hx hb dX2_primLength_55 ?_
            refine lv_istore_n (lv' := [(1, .int (v1_21 + ((gLen G) ((f_X2_shortestLeaving Rr G (v2_21))).toNatClampNeg))), (5, .int (f_X2_shortestLeaving Rr G (v2_21))), (0, .ref (g 0)), (2, .int v2_21), (3, .int (nI k6)), (4, .int (nI k21))]) hx hb dX2_primLength_56 rfl hl (by decide) rfl (fun ls hl => ?_)
            refine lv_iload_n hx hb dX2_primLength_57 rfl (lv_at hl 3 rfl) ?_
            refine lv_iconst (v := 1) hx hb dX2_primLength_58 (by decide) ?_
            refine lv_aload_n hx hb dX2_primLength_59 rfl (lv_at hl 2 rfl) ?_
            refine va_get (D := D) (ci := 5) (v := .ref (a 0)) (C := RX2) (T := TX2) (N := 4) hx hb hts hinX2 hown hK hP 0 rfl rfl 0 (by decide) (hts (.fieldLink RX2 21 "BridgeAuction$Graph" "game" "LBridgeAuction$Game;") (by decide +kernel)) (fun _ h9 => h9) rfl dX2_primLength_60 ?_
            refine va_getN (D := D) (ci := 4) (v := .ref (a 3)) (C := RX1) (T := TX1) (N := 16) hx hb hts hinX1 hown hK hP 4 rfl rfl 6 (by decide) (hE.use 6 rfl) (fun _ h9 => h9) rfl dX2_primLength_63 ?_
            refine lv_iload hx hb dX2_primLength_66 (lv_at hl 1 rfl) ?_
            obtain ⟨ehn_2, lhn_2⟩ := nat_of (x := (f_X2_shortestLeaving Rr G (v2_21))) (n := 12) (by exact shortestLeaving_in (R := Rr) hG c_37) (by omega)
            refine topN ehn_2 ?_
            refine ialdN (tys := tyA C) hx hb hK hP 7 0 rfl rfl (i := ((f_X2_shortestLeaving Rr G (v2_21))).toNatClampNeg) (by omega) (by decide) dX2_primLength_68 ?_
            have hb_3 := hlo (((f_X2_shortestLeaving Rr G (v2_21))).toNatClampNeg)
            refine lv_ishl hx hb dX2_primLength_69 ?_
            refine lv_iconst (v := 1) hx hb dX2_primLength_70 (by decide) ?_
            refine lv_aload_n hx hb dX2_primLength_71 rfl (lv_at hl 2 rfl) ?_
            refine va_get (D := D) (ci := 5) (v := .ref (a 0)) (C := RX2) (T := TX2) (N := 4) hx hb hts hinX2 hown hK hP 0 rfl rfl 0 (by decide) (hts (.fieldLink RX2 21 "BridgeAuction$Graph" "game" "LBridgeAuction$Game;") (by decide +kernel)) (fun _ h9 => h9) rfl dX2_primLength_72 ?_
            refine va_getN (D := D) (ci := 4) (v := .ref (a 4)) (C := RX1) (T := TX1) (N := 16) hx hb hts hinX1 hown hK hP 4 rfl rfl 7 (by decide) (hE.use 8 rfl) (fun _ h9 => h9) rfl dX2_primLength_75 ?_
            refine lv_iload hx hb dX2_primLength_78 (lv_at hl 1 rfl) ?_
            obtain ⟨ehn_4, lhn_4⟩ := nat_of (x := (f_X2_shortestLeaving Rr G (v2_21))) (n := 12) (by exact shortestLeaving_in (R := Rr) hG c_37) (by omega)
            refine topN ehn_4 ?_
            refine ialdN (tys := tyA C) hx hb hK hP 8 0 rfl rfl (i := ((f_X2_shortestLeaving Rr G (v2_21))).toNatClampNeg) (by omega) (by decide) dX2_primLength_80 ?_
            have hb_5 := hhi (((f_X2_shortestLeaving Rr G (v2_21))).toNatClampNeg)
            refine lv_ishl hx hb dX2_primLength_81 ?_
            refine lv_ior hx hb dX2_primLength_82 ?_
            refine lv_ior hx hb dX2_primLength_83 ?_
            refine lv_istore_n (lv' := [(2, .int (v2_21 ||| ((1 <<< ((nI ((gLo G) ((f_X2_shortestLeaving Rr G (v2_21))).toNatClampNeg)) &&& 31)) ||| (1 <<< ((nI ((gHi G) ((f_X2_shortestLeaving Rr G (v2_21))).toNatClampNeg)) &&& 31))))), (1, .int (v1_21 + ((gLen G) ((f_X2_shortestLeaving Rr G (v2_21))).toNatClampNeg))), (5, .int (f_X2_shortestLeaving Rr G (v2_21))), (0, .ref (g 0)), (3, .int (nI k6)), (4, .int (nI k21))]) hx hb dX2_primLength_84 rfl hl (by decide) rfl (fun ls hl => ?_)
            refine lv_iinc (v := (nI (k21 + 1))) (lv' := [(4, .int (nI (k21 + 1))), (2, .int (v2_21 ||| ((1 <<< ((nI ((gLo G) ((f_X2_shortestLeaving Rr G (v2_21))).toNatClampNeg)) &&& 31)) ||| (1 <<< ((nI ((gHi G) ((f_X2_shortestLeaving Rr G (v2_21))).toNatClampNeg)) &&& 31))))), (1, .int (v1_21 + ((gLen G) ((f_X2_shortestLeaving Rr G (v2_21))).toNatClampNeg))), (5, .int (f_X2_shortestLeaving Rr G (v2_21))), (0, .ref (g 0)), (3, .int (nI k6))]) hx hb dX2_primLength_85 hl (k := 5) rfl (by exact nI_1 _) (by decide) rfl (fun ls hl => ?_)
            refine lv_goto (tgt := 21) hx hb dX2_primLength_88 (by decide) ?_
            exact ih21 (k21 + 1) ((v1_21 + ((gLen G) ((f_X2_shortestLeaving Rr G (v2_21))).toNatClampNeg))) ((v2_21 ||| ((1 <<< ((nI ((gLo G) ((f_X2_shortestLeaving Rr G (v2_21))).toNatClampNeg)) &&& 31)) ||| (1 <<< ((nI ((gHi G) ((f_X2_shortestLeaving Rr G (v2_21))).toNatClampNeg)) &&& 31))))) ls (by omega) (by rw [hq21, hz]; rfl)  (lv_sub hl [4, 2, 1, 5, 0] rfl)
          · have hz := hz.trans (if_pos c_38)
            refine lv_goto (tgt := 91) hx hb dX2_primLength_41 (by decide) ?_
            have hz := up1 hq21 hz
            exact J91 (v1_21) (v2_21) ls hz  (lv_sub hl [1, 2, 3, 4] rfl)
      refine lv_iload_n hx hb dX2_primLength_6 rfl (lv_at hl 3 rfl) ?_
      refine lv_bipush (v := 8) hx hb dX2_primLength_7 (by decide) ?_
      refine lv_icmp_ge (tgt := 97) hx hb dX2_primLength_9 (by decide) (fun c_9 => absurd c_9 (by have e : (8 : Int32) = nI 8 := (by decide); rw [e]; exact nI_ge (by omega) (by omega))) (fun c_9 => ?_)
      refine lv_iload_n hx hb dX2_primLength_12 rfl (lv_at hl 2 rfl) ?_
      refine lv_iconst (v := 1) hx hb dX2_primLength_13 (by decide) ?_
      refine lv_iload_n hx hb dX2_primLength_14 rfl (lv_at hl 3 rfl) ?_
      refine lv_ishl hx hb dX2_primLength_15 ?_
      refine lv_ior hx hb dX2_primLength_16 ?_
      refine lv_istore_n (lv' := [(2, .int (v2_6 ||| (1 <<< ((nI k6) &&& 31)))), (0, .ref (g 0)), (1, .int v1_6), (3, .int (nI k6))]) hx hb dX2_primLength_17 rfl hl (by decide) rfl (fun ls hl => ?_)
      refine lv_iconst (v := 1) hx hb dX2_primLength_18 (by decide) ?_
      refine lv_istore (lv' := [(4, .int 1), (2, .int (v2_6 ||| (1 <<< ((nI k6) &&& 31)))), (0, .ref (g 0)), (1, .int v1_6), (3, .int (nI k6))]) hx hb dX2_primLength_19 hl (by decide) rfl (fun ls hl => ?_)
      exact J21 (8 - 1) 1 (v1_6) ((v2_6 ||| (1 <<< ((nI k6) &&& 31)))) ls (by omega) hz  (lv_sub hl [2, 3, 1, 4, 0] rfl)
  refine lv_iconst (v := 0) hx hb dX2_primLength_0 (by decide) ?_
  refine lv_istore_n (lv' := [(1, .int 0), (0, .ref (g 0))]) hx hb dX2_primLength_1 rfl hl (by decide) rfl (fun ls hl => ?_)
  refine lv_iconst (v := 0) hx hb dX2_primLength_2 (by decide) ?_
  refine lv_istore_n (lv' := [(2, .int 0), (1, .int 0), (0, .ref (g 0))]) hx hb dX2_primLength_3 rfl hl (by decide) rfl (fun ls hl => ?_)
  refine lv_iconst (v := 0) hx hb dX2_primLength_4 (by decide) ?_
  refine lv_istore_n (lv' := [(3, .int 0), (2, .int 0), (1, .int 0), (0, .ref (g 0))]) hx hb dX2_primLength_5 rfl hl (by decide) rfl (fun ls hl => ?_)
  exact J6 (8) 0 (0) (0) ls (by omega) hz  (lv_sub hl [3, 2, 1, 0] rfl)
