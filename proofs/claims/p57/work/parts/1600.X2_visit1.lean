/-! bits of a set of islands; the search -/
def bitAt (x : Int32) (k : Nat) : Bool := x.toBitVec.getLsbD k
theorem bit_mask : ∀ k, k < 8 → (1 <<< (nI k &&& 31) : Int32) = nI (2 ^ k) := by decide +kernel
theorem bit_mask_at : ∀ k, k < 8 → ∀ j, j < 32 → bitAt (nI (2 ^ k)) j = decide (j = k) := by decide +kernel
theorem bit_or (x y : Int32) (k : Nat) : bitAt (x ||| y) k = (bitAt x k || bitAt y k) := by
  unfold bitAt
  rw [Int32.toBitVec_or, BitVec.getLsbD_or]
theorem bit_and (x y : Int32) (k : Nat) : bitAt (x &&& y) k = (bitAt x k && bitAt y k) := by
  unfold bitAt
  rw [Int32.toBitVec_and, BitVec.getLsbD_and]
theorem bit_0 (k : Nat) : bitAt 0 k = false := by
  unfold bitAt
  show (0#32).getLsbD k = false
  exact BitVec.getLsbD_zero
theorem bit_ext {x y : Int32} (h : ∀ k, k < 32 → bitAt x k = bitAt y k) : x = y :=
  Int32.toBitVec_inj.mp (BitVec.eq_of_getLsbD_eq h)
theorem con_bit (x : Int32) {k : Nat} (hk : k < 8) : f_X2_contains x (nI k) = bitAt x k := by
  unfold f_X2_contains
  simp only [f_X2_contains_j13]
  rw [bit_mask k hk]
  cases hb : bitAt x k
  · rw [if_pos]
    apply bit_ext
    intro j hj
    rw [bit_and, bit_0, bit_mask_at k hk j hj]
    by_cases e : j = k
    · subst e; rw [hb]; rfl
    · simp [e]
  · rw [if_neg]
    intro h
    have e := congrArg (fun t => bitAt t k) h
    simp only [bit_and, bit_0, bit_mask_at k hk k (by omega), hb] at e
    exact absurd e (by simp)
theorem bit_set (x : Int32) {i k : Nat} (hi : i < 8) (hk : k < 8) : bitAt (x ||| (1 <<< (nI i &&& 31))) k = (bitAt x k || decide (k = i)) := by
  rw [bit_or, bit_mask i hi, bit_mask_at i hi k (by omega)]
def cU (x : Int32) : Nat := (if bitAt x 0 = true then 0 else 1) + (if bitAt x 1 = true then 0 else 1) + (if bitAt x 2 = true then 0 else 1) + (if bitAt x 3 = true then 0 else 1) + (if bitAt x 4 = true then 0 else 1) + (if bitAt x 5 = true then 0 else 1) + (if bitAt x 6 = true then 0 else 1) + (if bitAt x 7 = true then 0 else 1)
def subS (x y : Int32) : Prop := ∀ k, k < 8 → bitAt x k = true → bitAt y k = true
theorem subS_rfl (x : Int32) : subS x x := fun _ _ h => h
theorem subS_trans {x y z : Int32} (h : subS x y) (h2 : subS y z) : subS x z := fun k hk e => h2 k hk (h k hk e)
theorem one_le {a b : Bool} (h : a = true → b = true) : (if b = true then 0 else 1) ≤ (if a = true then 0 else 1 : Nat) := by
  cases a <;> cases b
  · decide
  · decide
  · exact absurd (h rfl) (by decide)
  · decide
theorem cU_mono {x y : Int32} (h : subS x y) : cU y ≤ cU x := by
  unfold cU
  have h0 := one_le (h 0 (by decide)); have h1 := one_le (h 1 (by decide)); have h2 := one_le (h 2 (by decide)); have h3 := one_le (h 3 (by decide))
  have h4 := one_le (h 4 (by decide)); have h5 := one_le (h 5 (by decide)); have h6 := one_le (h 6 (by decide)); have h7 := one_le (h 7 (by decide))
  omega
theorem sub_set (x : Int32) {i : Nat} (hi : i < 8) : subS x (x ||| (1 <<< (nI i &&& 31))) := fun k hk e => by rw [bit_set x hi hk, e]; rfl
theorem cU_set {x : Int32} {i : Nat} (hi : i < 8) (h : bitAt x i = false) : cU (x ||| (1 <<< (nI i &&& 31))) + 1 ≤ cU x := by
  unfold cU
  rw [bit_set x hi (k := 0) (by decide), bit_set x hi (k := 1) (by decide), bit_set x hi (k := 2) (by decide), bit_set x hi (k := 3) (by decide), bit_set x hi (k := 4) (by decide), bit_set x hi (k := 5) (by decide), bit_set x hi (k := 6) (by decide), bit_set x hi (k := 7) (by decide)]
  generalize hb0 : bitAt x 0 = b0 at h ⊢
  generalize hb1 : bitAt x 1 = b1 at h ⊢
  generalize hb2 : bitAt x 2 = b2 at h ⊢
  generalize hb3 : bitAt x 3 = b3 at h ⊢
  generalize hb4 : bitAt x 4 = b4 at h ⊢
  generalize hb5 : bitAt x 5 = b5 at h ⊢
  generalize hb6 : bitAt x 6 = b6 at h ⊢
  generalize hb7 : bitAt x 7 = b7 at h ⊢
  rcases (by omega : i = 0 ∨ i = 1 ∨ i = 2 ∨ i = 3 ∨ i = 4 ∨ i = 5 ∨ i = 6 ∨ i = 7) with r | r | r | r | r | r | r | r <;> subst r
  · have e : b0 = false := hb0.symm.trans h
    subst e; clear h hb0 hb1 hb2 hb3 hb4 hb5 hb6 hb7; revert b1 b2 b3 b4 b5 b6 b7; decide
  · have e : b1 = false := hb1.symm.trans h
    subst e; clear h hb0 hb1 hb2 hb3 hb4 hb5 hb6 hb7; revert b0 b2 b3 b4 b5 b6 b7; decide
  · have e : b2 = false := hb2.symm.trans h
    subst e; clear h hb0 hb1 hb2 hb3 hb4 hb5 hb6 hb7; revert b0 b1 b3 b4 b5 b6 b7; decide
  · have e : b3 = false := hb3.symm.trans h
    subst e; clear h hb0 hb1 hb2 hb3 hb4 hb5 hb6 hb7; revert b0 b1 b2 b4 b5 b6 b7; decide
  · have e : b4 = false := hb4.symm.trans h
    subst e; clear h hb0 hb1 hb2 hb3 hb4 hb5 hb6 hb7; revert b0 b1 b2 b3 b5 b6 b7; decide
  · have e : b5 = false := hb5.symm.trans h
    subst e; clear h hb0 hb1 hb2 hb3 hb4 hb5 hb6 hb7; revert b0 b1 b2 b3 b4 b6 b7; decide
  · have e : b6 = false := hb6.symm.trans h
    subst e; clear h hb0 hb1 hb2 hb3 hb4 hb5 hb6 hb7; revert b0 b1 b2 b3 b4 b5 b7; decide
  · have e : b7 = false := hb7.symm.trans h
    subst e; clear h hb0 hb1 hb2 hb3 hb4 hb5 hb6 hb7; revert b0 b1 b2 b3 b4 b5 b6; decide
theorem cU_0 {x : Int32} (h : cU x ≤ 0) {k : Nat} (hk : k < 8) : bitAt x k = true := by
  unfold cU at h
  have q : ∀ b : Bool, (if b = true then 0 else 1) = 0 → b = true := by decide
  rcases (by omega : k = 0 ∨ k = 1 ∨ k = 2 ∨ k = 3 ∨ k = 4 ∨ k = 5 ∨ k = 6 ∨ k = 7) with r | r | r | r | r | r | r | r <;> subst r <;> exact q _ (by omega)
theorem cU_8 (x : Int32) : cU x ≤ 8 := by
  have q : ∀ b : Bool, (if b = true then 0 else 1) ≤ 1 := by decide
  unfold cU
  have h0 := q (bitAt x 0); have h1 := q (bitAt x 1); have h2 := q (bitAt x 2); have h3 := q (bitAt x 3); have h4 := q (bitAt x 4); have h5 := q (bitAt x 5); have h6 := q (bitAt x 6); have h7 := q (bitAt x 7)
  omega
theorem con_in {x i : Int32} (h : vp_in i 8) : f_X2_contains x i = bitAt x i.toNatClampNeg := by
  obtain ⟨e, l⟩ := nat_of h (by decide)
  have q := con_bit x l
  rw [← e] at q
  exact q
theorem cU_seti {x i : Int32} (hi : vp_in i 8) (h : f_X2_contains x i = false) : cU (x ||| (1 <<< (i &&& 31))) + 1 ≤ cU x := by
  obtain ⟨e, l⟩ := nat_of hi (by decide)
  rw [con_in hi] at h
  have q := cU_set l h
  rw [← e] at q
  exact q
theorem sub_seti (x : Int32) {i : Int32} (hi : vp_in i 8) : subS x (x ||| (1 <<< (i &&& 31))) := by
  obtain ⟨e, l⟩ := nat_of hi (by decide)
  have q := sub_set x l
  rw [← e] at q
  exact q
def f_X2_visit1_j50  (v3_50 : Int32) : Sum (Int32) (Int32) := (Sum.inr v3_50)
def f_X2_visit1_l9b (G : GS) (i : Int32) (k9 : Nat) (v3_9 : Int32) : Sum (Int32) (Int32) := (if (f_X1_bridgedFrom G (i) (k9)) = (-1) then (f_X2_visit1_j50 (v3_9)) else (f_X2_visit1_j50 (v3_9)))
def f_X2_visit1_l9x (G : GS) (i : Int32) (v3_9 : Int32) : Int32 := v3_9
def f_X2_visit1_l9s (G : GS) (i : Int32) (k9 : Nat) (q_ : Int32) : Sum (Int32) (Int32) := f_X2_visit1_l9b G i k9 (q_)
def f_X2_visit1_l9e (G : GS) (i : Int32) (q_ : Int32) : Int32 := f_X2_visit1_l9x G i (q_)
def f_X2_visit1_l9 (G : GS) (i : Int32) (n9 k9 : Nat) (v3_9 : Int32) : Int32 := lpF (f_X2_visit1_l9s G i) (f_X2_visit1_l9e G i) n9 k9 v3_9
def f_X2_visit1 (G : GS) (i : Int32) (x : Int32) : Int32 := (f_X2_visit1_l9 G i (gS G) 0 ((x ||| (1 <<< (i &&& 31)))))
set_option maxHeartbeats 4000000 in
set_option maxRecDepth 100000 in
theorem c_X2_visit1 (l : Launch) (D : va_G) (C : Nat → ClassId) (a : Nat → Nat) (G : GS) (i : Int32) (x : Int32) (hG : GSafe G) (hi : vp_in i 8) (hn : f_X2_contains x i = false) (hu : cU x ≤ 1) : Met l yX2_visit wsX2_visit ({ frames := 2, cells := 0, slots := 0, locals := 43 } : Room) (roP [.ref (a 0), .int i, .int x] D C (gcells C a G)) (roO (some (.int (f_X2_visit1 G i x)))) 0 0 (fun _ => False) := by
  refine Met.ofW (cc := cX2_visit) (maxL := 6) (ret := (some .int)) (by decide) rfl ?_
  intro p e s m args below meth c s₁ B hml hv
  obtain ⟨rfl, hP, hK, hE⟩ := hv
  have hx := B.exec
  have hb := B.bytes
  have hr := B.returns
  have hts := atoms_spec (ws := wsX2_visit) B.pre
  have hown : s.vm.findClass RX2 = some m.cls := findClass_of_methodNamed B.named
  have hlocks := B.notSynchronized
  obtain ⟨hS12, hP4, hlo, hhi⟩ := id hG
  have hinX1 : ∀ w ∈ u_ws RX1 TX1 16, w ∈ wsX2_visit := by decide +kernel
  have hl := lv_entry ([.ref (a 0), .int i, .int x]) (n := 6) (Nat.le_of_ble_eq_true rfl)
  rw [lg_entry_eq]
  generalize (lg_sl ([.ref (a 0), .int i, .int x]) ++ List.replicate (6 - (lg_sl ([.ref (a 0), .int i, .int x])).length) Slot.unset).toArray = ls at hl ⊢
  have hl : lv_has ls 6 [(0, .ref (a 0)), (1, .int i), (2, .int x)] := hl
  have hc9 := cU_seti hi hn
  obtain ⟨z, hz⟩ : ∃ z, z = f_X2_visit1 G i x := ⟨_, rfl⟩
  rw [← hz]
  have J9 : ∀ (n9 k9 : Nat) (v3_9 : Int32) (ls : Array Slot), k9 + n9 = gS G → z = f_X2_visit1_l9 G i n9 k9 v3_9 → (cU v3_9 ≤ 0) → lv_has ls 6 [(0, .ref (a 0)), (1, .int i), (3, .int v3_9), (4, .int (nI k9))] → W p l e ({ frames := 2, cells := 0, slots := 0, locals := 43 } : Room) s m ([.ref (a 0), .int i, .int x] : List Value).toArray below meth c s.heap [] 0 0 (MQ below (roO (some (.int z))) ([.ref (a 0), .int i, .int x] : List Value).toArray s 0 0 (fun _ => False)) (F0 m 9 ls []) := by
    intro n9
    induction n9 with
    | zero =>
      intro k9 v3_9 ls hk9 hz iv9_0 hl
      have hz : z = f_X2_visit1_l9x G i v3_9 := hz
      refine lv_iload hx hb dX2_visit_9 (lv_at hl 3 rfl) ?_
      refine lv_aload_n hx hb dX2_visit_11 rfl (lv_at hl 0 rfl) ?_
      refine va_getN (D := D) (ci := 4) (v := .int (nI (gS G))) (C := RX1) (T := TX1) (N := 16) hx hb hts hinX1 hown hK hP 0 rfl rfl 5 (by decide) (hE.use 4 rfl) (fun _ h9 => h9) rfl dX2_visit_12 ?_
      refine lv_icmp_ge (tgt := 56) hx hb dX2_visit_15 (by decide) (fun c_15 => ?_) (fun c_15 => absurd (nI_le (by omega) (by omega)) c_15)
      refine lv_iload_n hx hb dX2_visit_56 rfl (lv_at hl 2 rfl) ?_
      exact ro_ret hx hb hr hz dX2_visit_57 hlocks
    | succ n9 ih9 =>
      intro k9 v3_9 ls hk9 hz9 iv9_0 hl
      obtain ⟨z9, hz⟩ : ∃ zz_, zz_ = f_X2_visit1_l9b G i k9 v3_9 := ⟨_, rfl⟩
      have hq9 : z = sE id (fun q_ => lpF (f_X2_visit1_l9s G i) (f_X2_visit1_l9e G i) n9 (k9 + 1) q_) z9 := by rw [hz9, hz]; rfl
      have J50 : ∀ (v3_50 : Int32)  (ls : Array Slot), z9 = f_X2_visit1_j50 v3_50 → (cU v3_50 ≤ 0) → lv_has ls 6 [(0, .ref (a 0)), (1, .int i), (3, .int v3_50), (4, .int (nI k9))] → W p l e ({ frames := 2, cells := 0, slots := 0, locals := 43 } : Room) s m ([.ref (a 0), .int i, .int x] : List Value).toArray below meth c s.heap [] 0 0 (MQ below (roO (some (.int z))) ([.ref (a 0), .int i, .int x] : List Value).toArray s 0 0 (fun _ => False)) (F0 m 50 ls []) := by
        intro v3_50 ls hz iv50_0 hl
        refine lv_iinc (v := (nI (k9 + 1))) (lv' := [(4, .int (nI (k9 + 1))), (0, .ref (a 0)), (1, .int i), (3, .int v3_50)]) hx hb dX2_visit_50 hl (k := 3) rfl (by exact nI_1 _) (by decide) rfl (fun ls hl => ?_)
        refine lv_goto (tgt := 9) hx hb dX2_visit_53 (by decide) ?_
        exact ih9 (k9 + 1) (v3_50) ls (by omega) (by rw [hq9, hz]; rfl) (by first | assumption | omega) (lv_sub hl [1, 2, 3, 0] rfl)
      refine lv_iload hx hb dX2_visit_9 (lv_at hl 3 rfl) ?_
      refine lv_aload_n hx hb dX2_visit_11 rfl (lv_at hl 0 rfl) ?_
      refine va_getN (D := D) (ci := 4) (v := .int (nI (gS G))) (C := RX1) (T := TX1) (N := 16) hx hb hts hinX1 hown hK hP 0 rfl rfl 5 (by decide) (hE.use 4 rfl) (fun _ h9 => h9) rfl dX2_visit_12 ?_
      refine lv_icmp_ge (tgt := 56) hx hb dX2_visit_15 (by decide) (fun c_15 => absurd c_15 (nI_ge (by omega) (by omega))) (fun c_15 => ?_)
      refine lv_aload_n hx hb dX2_visit_18 rfl (lv_at hl 0 rfl) ?_
      refine lv_iload_n hx hb dX2_visit_19 rfl (lv_at hl 1 rfl) ?_
      refine lv_iload hx hb dX2_visit_20 (lv_at hl 3 rfl) ?_
      refine callRo (va_runV (As := [.int i, .int (nI k9)]) (rest := []) ⟨hx, hb, hml, hown, hts⟩ (c_X1_bridgedFrom l D C a G (i) (k9) hG (by omega)) (cwV 2 hts gX2_visit_X1_bridgedFrom rfl rfl rfl (by decide +kernel) ⟨Nat.le_of_ble_eq_true rfl, Nat.le_of_ble_eq_true rfl⟩) (roP_v hP hK hE (va_recv hK hP (ci := 4) (q0 := 0) rfl rfl)) rfl rfl hl.1 rfl (lv_room (Nat.le_of_ble_eq_true rfl)) dX2_visit_22 ⟨Nat.le_refl _, Nat.le_refl _⟩) ?_
      refine lv_istore (lv' := [(5, .int (f_X1_bridgedFrom G (i) (k9))), (0, .ref (a 0)), (1, .int i), (3, .int v3_9), (4, .int (nI k9))]) hx hb dX2_visit_25 hl (by decide) rfl (fun ls hl => ?_)
      refine lv_iload hx hb dX2_visit_27 (lv_at hl 0 rfl) ?_
      refine lv_iconst (v := (-1)) hx hb dX2_visit_29 (by decide) ?_
      refine lv_icmp_eq (tgt := 50) hx hb dX2_visit_30 (by decide) (fun c_30 => ?_) (fun c_30 => ?_)
      · have hz := hz.trans (if_pos c_30)
        exact J50 (v3_9) ls hz (by first | assumption | omega) (lv_sub hl [1, 2, 3, 4] rfl)
      · have hz := hz.trans (if_neg c_30)
        refine lv_iload_n hx hb dX2_visit_33 rfl (lv_at hl 3 rfl) ?_
        refine lv_iload hx hb dX2_visit_34 (lv_at hl 0 rfl) ?_
        refine callRo (va_runS (As := [.int v3_9, .int (f_X1_bridgedFrom G (i) (k9))]) (rest := []) ⟨hx, hb, hml, hown, hts⟩ (c_X2_contains l D C (v3_9) ((f_X1_bridgedFrom G (i) (k9)))) (va_cwS 2 hts gX2_visit_X2_contains rfl rfl rfl (by decide +kernel) ⟨Nat.le_of_ble_eq_true rfl, Nat.le_of_ble_eq_true rfl⟩) (roP_s (hP.sub (ws' := ([] : va_W)) [] rfl) hK hE) rfl rfl hl.1 rfl (lv_room (Nat.le_of_ble_eq_true rfl)) dX2_visit_36 ⟨Nat.le_refl _, Nat.le_refl _⟩) ?_
        refine bif_ne (tgt := 50) hx hb dX2_visit_39 (by decide) (fun c_39 => ?_) (fun c_39 => absurd c_39 (by rw [con_in (bridgedFrom_in hG c_30), cU_0 iv9_0 (nat_of (bridgedFrom_in hG c_30) (by decide)).2]; decide))
        exact J50 (v3_9) ls hz (by first | assumption | omega) (lv_sub hl [1, 2, 3, 4] rfl)
  refine lv_iload_n hx hb dX2_visit_0 rfl (lv_at hl 2 rfl) ?_
  refine lv_iconst (v := 1) hx hb dX2_visit_1 (by decide) ?_
  refine lv_iload_n hx hb dX2_visit_2 rfl (lv_at hl 1 rfl) ?_
  refine lv_ishl hx hb dX2_visit_3 ?_
  refine lv_ior hx hb dX2_visit_4 ?_
  refine lv_istore_n (lv' := [(3, .int (x ||| (1 <<< (i &&& 31)))), (0, .ref (a 0)), (1, .int i), (2, .int x)]) hx hb dX2_visit_5 rfl hl (by decide) rfl (fun ls hl => ?_)
  refine lv_iconst (v := 0) hx hb dX2_visit_6 (by decide) ?_
  refine lv_istore (lv' := [(4, .int 0), (3, .int (x ||| (1 <<< (i &&& 31)))), (0, .ref (a 0)), (1, .int i), (2, .int x)]) hx hb dX2_visit_7 hl (by decide) rfl (fun ls hl => ?_)
  exact J9 (gS G) 0 ((x ||| (1 <<< (i &&& 31)))) ls (by omega) hz (by first | assumption | omega) (lv_sub hl [2, 3, 1, 0] rfl)

