def f_X2_separateAll_l2b (Rr : GR) (k2 : Nat) (par0_2 : (Nat → Nat)) : Sum (GR) ((Nat → Nat)) := (Sum.inr (updN par0_2 k2 k2))
def f_X2_separateAll_l2x (Rr : GR) (par0_2 : (Nat → Nat)) : GR := (mkR (rNear Rr) (rRlx Rr) par0_2)
def f_X2_separateAll_l2s (Rr : GR) (k2 : Nat) (q_ : (Nat → Nat)) : Sum (GR) ((Nat → Nat)) := f_X2_separateAll_l2b Rr k2 (q_)
def f_X2_separateAll_l2e (Rr : GR) (q_ : (Nat → Nat)) : GR := f_X2_separateAll_l2x Rr (q_)
def f_X2_separateAll_l2 (Rr : GR) (n2 k2 : Nat) (par0_2 : (Nat → Nat)) : GR := lpF (f_X2_separateAll_l2s Rr) (f_X2_separateAll_l2e Rr) n2 k2 par0_2
def f_X2_separateAll (Rr : GR) : GR := (f_X2_separateAll_l2 Rr (8) 0 ((rPar Rr)))
set_option maxHeartbeats 4000000 in
set_option maxRecDepth 100000 in
theorem c_X2_separateAll (l : Launch) (D : va_G) (C : Nat → ClassId) (g : Nat → Nat) (Rr : GR) (sz : Nat) : Met l yX2_separateAll wsX2_separateAll ({ frames := 0, cells := 0, slots := 0, locals := 0 } : Room) (rwP [.ref (g 0)] D C (grcells C g Rr) sz) (rwO none D (grcells C g ((f_X2_separateAll Rr))) (va_A (grcells C g Rr) sz)) 0 0 (va_A (grcells C g Rr) sz) := by
  refine Met.ofW (cc := cX2_separateAll) (maxL := 2) (ret := none) (by decide) rfl ?_
  intro p e s m args below meth c s₁ B hml hv
  obtain ⟨rfl, hsz, hP, hK, hD0, hE⟩ := hv
  have hx := B.exec
  have hb := B.bytes
  have hr := B.returns
  have hts := atoms_spec (ws := wsX2_separateAll) B.pre
  have hown : s.vm.findClass RX2 = some m.cls := findClass_of_methodNamed B.named
  have hlocks := B.notSynchronized
  subst hsz
  have hD := hD0.self (sz := s.heap.size)
  generalize hAe : va_A (grcells C g Rr) s.heap.size = A at hD ⊢
  have hA : ∀ q : Nat, s.heap.size ≤ q → A q := fun q h => by rw [← hAe]; exact Or.inr h
  have hS0 : va_S A s.heap s.heap [] := va_S.rf
  have hP : va_P D vwCl (grcells C g Rr) s.heap := hP
  have hS := hS0
  have hinX2 : ∀ w ∈ u_ws RX2 TX2 3, w ∈ wsX2_separateAll := by decide +kernel
  have hl := lv_entry ([.ref (g 0)]) (n := 2) (Nat.le_of_ble_eq_true rfl)
  rw [lg_entry_eq]
  generalize (lg_sl ([.ref (g 0)]) ++ List.replicate (2 - (lg_sl ([.ref (g 0)])).length) Slot.unset).toArray = ls at hl ⊢
  have hl : lv_has ls 2 [(0, .ref (g 0))] := hl
  obtain ⟨z, hz⟩ : ∃ z, z = f_X2_separateAll Rr := ⟨_, rfl⟩
  rw [← hz]
  have J2 : ∀ (n2 k2 : Nat) (par0_2 : (Nat → Nat)) (H : Heap) (locs : List Loc) (ls : Array Slot), k2 + n2 = 8 → z = f_X2_separateAll_l2 Rr n2 k2 par0_2 → va_P D vwCl (grcells C g (mkR (rNear Rr) (rRlx Rr) par0_2)) H → va_D A (grcells C g (mkR (rNear Rr) (rRlx Rr) par0_2)) → va_S A s.heap H locs → lv_has ls 2 [(0, .ref (g 0)), (1, .int (nI k2))] → W p l e ({ frames := 0, cells := 0, slots := 0, locals := 0 } : Room) s m ([.ref (g 0)] : List Value).toArray below meth c H locs 0 0 (MQ below (rwO none D (grcells C g z) A) ([.ref (g 0)] : List Value).toArray s 0 0 A) (F0 m 2 ls []) := by
    intro n2
    induction n2 with
    | zero =>
      intro k2 par0_2 H locs ls hk2 hz  hP hD hS hl
      have hz : z = f_X2_separateAll_l2x Rr par0_2 := hz
      refine lv_iload_n hx hb dX2_separateAll_2 rfl (lv_at hl 1 rfl) ?_
      refine lv_bipush (v := 8) hx hb dX2_separateAll_3 (by decide +kernel) ?_
      refine lv_icmp_ge (tgt := 21) hx hb dX2_separateAll_5 (by decide) (fun c_5 => ?_) (fun c_5 => absurd (by have e : (8 : Int32) = nI 8 := (by decide +kernel); rw [e]; exact nI_le (by omega) (by omega)) c_5)
      have hz : z = (mkR (rNear Rr) (rRlx Rr) par0_2) := hz
      rw [hz]
      exact rw_retV hx hb hr hP hS dX2_separateAll_21 hlocks
    | succ n2 ih2 =>
      intro k2 par0_2 H locs ls hk2 hz2  hP hD hS hl
      obtain ⟨z2, hz⟩ : ∃ zz_, zz_ = f_X2_separateAll_l2b Rr k2 par0_2 := ⟨_, rfl⟩
      have hq2 : z = sE id (fun q_ => lpF (f_X2_separateAll_l2s Rr) (f_X2_separateAll_l2e Rr) n2 (k2 + 1) q_) z2 := by rw [hz2, hz]; rfl
      refine lv_iload_n hx hb dX2_separateAll_2 rfl (lv_at hl 1 rfl) ?_
      refine lv_bipush (v := 8) hx hb dX2_separateAll_3 (by decide +kernel) ?_
      refine lv_icmp_ge (tgt := 21) hx hb dX2_separateAll_5 (by decide) (fun c_5 => absurd c_5 (by have e : (8 : Int32) = nI 8 := (by decide +kernel); rw [e]; exact nI_ge (by omega) (by omega))) (fun c_5 => ?_)
      refine lv_aload_n hx hb dX2_separateAll_8 rfl (lv_at hl 0 rfl) ?_
      refine va_get (D := D) (ci := 5) (v := .ref (g 3)) (C := RX2) (T := TX2) (N := 3) hx hb hts hinX2 hown hK hP 0 rfl rfl 2 (by decide) (hts (.fieldLink RX2 18 "BridgeAuction$Graph" "parents" "[I") (by decide +kernel)) (fun _ h9 => h9) rfl dX2_separateAll_9 ?_
      refine lv_iload_n hx hb dX2_separateAll_12 rfl (lv_at hl 1 rfl) ?_
      refine lv_iload_n hx hb dX2_separateAll_13 rfl (lv_at hl 1 rfl) ?_
      refine iastNN (tys := tyA C) hx hb hK hP hD hS 3 0 rfl rfl (i := k2) (by omega) (by decide) dX2_separateAll_14 (fun H locs hP hD hS => ?_)
      have hP : va_P D vwCl (grcells C g (mkR (rNear Rr) (rRlx Rr) (updN par0_2 k2 k2))) H := hP
      have hD : va_D A (grcells C g (mkR (rNear Rr) (rRlx Rr) (updN par0_2 k2 k2))) := hD
      refine lv_iinc (v := (nI (k2 + 1))) (lv' := [(1, .int (nI (k2 + 1))), (0, .ref (g 0))]) hx hb dX2_separateAll_15 hl (k := 1) rfl (by exact nI_1 _) (by decide) rfl (fun ls hl => ?_)
      refine lv_goto (tgt := 2) hx hb dX2_separateAll_18 (by decide) ?_
      exact ih2 (k2 + 1) ((updN par0_2 k2 k2)) _ _ ls (by omega) (by rw [hq2, hz]; rfl)  hP hD hS (lv_sub hl [1, 0] rfl)
  refine lv_iconst (v := 0) hx hb dX2_separateAll_0 (by decide) ?_
  refine lv_istore_n (lv' := [(1, .int 0), (0, .ref (g 0))]) hx hb dX2_separateAll_1 rfl hl (by decide) rfl (fun ls hl => ?_)
  exact J2 (8) 0 ((rPar Rr)) _ _ ls (by omega) hz  hP hD hS (lv_sub hl [1, 0] rfl)

